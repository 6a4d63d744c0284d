/** Terms, RELEASE: what a LOST one leaves as it is, and where a job that is over or FAILED lets a new one begin. */
public final class TermsReleaseTest {
    private static final Check CHECK = new Check("TermsReleaseTest");

    public static void main(String[] args) {
        lostLeavesTheJobAsItIs();
        lostLeavesTheOrderAsItIs();
        lostWhileBlocked();
        lostAtTheDueTimeAheadOfTheTick();
        periodAsLongAsTheWork();
        aNewJobBehindAFailedOneBeginsAnew();
        CHECK.end();
    }

    private static void lostLeavesTheJobAsItIs() {
        TaskKernel k = new TaskKernel(1);
        k.task(1, 0, 0, 9, 4);
        Check.body(k, 0, "W2 W3");
        k.start();
        k.release(0);
        k.tick(3);
        CHECK.due("release(0) with a job", k.release(0), true);
        CHECK.due("seen(0, 1): its step", k.seen(0, 1), 1);
        CHECK.due("seen(0, 2): its due time", k.seen(0, 2), 9);
        k.tick(4);
        CHECK.due("the events: its units count on", Check.events(k),
                "release 0@0, LOST 0@3, OVER 0@4, DONE 0@4");
        CHECK.due("seen(0, 8): from the release that was not LOST", k.seen(0, 8), 5);
    }

    private static void lostLeavesTheOrderAsItIs() {
        TaskKernel k = new TaskKernel(0);
        Check.plainTask(k, 5, "W1");
        Check.plainTask(k, 5, "W1");
        k.start();
        Check.releaseAll(k, 1, 0, 1);
        CHECK.due("who works: 1 is READY for longest", Check.workers(k, 3), "10.");
    }

    private static void lostWhileBlocked() {
        TaskKernel k = new TaskKernel(0);
        k.mutex(0, 0);
        Check.plainTask(k, 1, "L0 W5 U0 W1");
        Check.plainTask(k, 5, "L0 W1");
        Check.plainTask(k, 5, "L0 W1");
        k.start();
        Check.releaseEach(k, 0, 1, 2, 1);
        CHECK.due("seen(1, 0): still BLOCKED", k.seen(1, 0), 2);
        CHECK.due("held(0, 1)", k.held(0, 1), 2);
        k.tick(3);
        CHECK.due("the latest events: 1 is BLOCKED for longest", Check.latest(k, 5),
                "LOST 1@3, GIVEN 1@4, DONE 1@5, GIVEN 2@5, DONE 2@6");
    }

    /** The job FAILS only within the tick, so that it is still going on at a release ahead of it. */
    private static void lostAtTheDueTimeAheadOfTheTick() {
        TaskKernel k = new TaskKernel(0);
        k.task(1, 0, 0, 3, 200);
        Check.body(k, 0, "W9");
        k.strict(0, true);
        k.start();
        k.release(0);
        k.tick(3);
        k.release(0);
        k.tick(1);
        CHECK.due("the events", Check.events(k), "release 0@0, LOST 0@3, MISS 0@3, FAILED 0@3");
        CHECK.due("seen(0, 0)", k.seen(0, 0), 0);
    }

    private static void periodAsLongAsTheWork() {
        TaskKernel k = new TaskKernel(0);
        k.task(1, 2, 0, 2, 2);
        Check.body(k, 0, "W2");
        k.start();
        CHECK.due("tick(4)", k.tick(4), 4);
        CHECK.due("the events: none LOST, no MISS, none OVER", Check.events(k),
                "release 0@0, DONE 0@1, release 0@2, DONE 0@3");
    }

    private static void aNewJobBehindAFailedOneBeginsAnew() {
        TaskKernel k = new TaskKernel(1);
        k.task(1, 3, 0, 3, 2);
        Check.body(k, 0, "W1 W4");
        k.strict(0, true);
        k.start();
        k.tick(3);
        CHECK.due("seen(0, 1) of the first job", k.seen(0, 1), 1);
        k.tick(1);
        CHECK.due("seen(0, 1) of the second job, behind one unit", k.seen(0, 1), 1);
        CHECK.due("seen(0, 2): its due time", k.seen(0, 2), 6);
        k.tick(3);
        CHECK.due("the events: the units are counted anew", Check.events(k), "release 0@0, OVER 0@2, MISS 0@3, "
                + "FAILED 0@3, release 0@3, OVER 0@5, MISS 0@6, FAILED 0@6, release 0@6");
        CHECK.due("seen(0, 7): units worked in all", k.seen(0, 7), 7);
        CHECK.due("seen(0, 8): none was DONE", k.seen(0, 8), 0);
    }
}
