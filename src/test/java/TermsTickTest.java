/** Terms, a TICK and EVENTS: the edges of a MISS, ticks one by one or at once, and which events are kept. */
public final class TermsTickTest {
    private static final Check CHECK = new Check("TermsTickTest");

    public static void main(String[] args) {
        missAheadOfDoneWithoutTime();
        oneMissOfEachJob();
        aMissOfATaskThatIsGivenAMutex();
        noMissOfAJobThatIsDoneOrFailed();
        ticksAtOnceOrOneByOne();
        eventsAreKeptUpToForty();
        CHECK.end();
    }

    /** The job has no step left but waits for its turn: it is a MISS in part 1 and DONE in part 3 of one tick. */
    private static void missAheadOfDoneWithoutTime() {
        TaskKernel k = new TaskKernel(0);
        k.task(1, 0, 0, 3, 200);
        Check.plainTask(k, 2, "W3");
        k.start();
        Check.releaseAll(k, 0, 1);
        k.tick(4);
        CHECK.due("the events", Check.events(k), "release 0@0, release 1@0, DONE 1@2, MISS 0@3, DONE 0@3");
        CHECK.due("seen(0, 8)", k.seen(0, 8), 3);
    }

    private static void oneMissOfEachJob() {
        TaskKernel k = new TaskKernel(0);
        k.task(1, 0, 0, 2, 200);
        Check.body(k, 0, "W4");
        k.start();
        k.release(0);
        k.tick(4);
        CHECK.due("seen(0, 5) behind the first job", k.seen(0, 5), 1);
        k.release(0);
        k.tick(4);
        CHECK.due("seen(0, 5) behind the second job", k.seen(0, 5), 2);
        CHECK.due("the events", Check.events(k),
                "release 0@0, MISS 0@2, DONE 0@3, release 0@4, MISS 0@6, DONE 0@7");
    }

    /** The owner and one of the two that are BLOCKED are STRICT and due at 5; last is due later. */
    private static String missesOf(int owner, int blocked) {
        TaskKernel k = new TaskKernel(0);
        k.mutex(0, 0);
        for (int t = 0; t < 2; t++) {
            k.task(t == owner ? 1 : 9, 0, 0, t == owner ? 5 : 4, 200);
            Check.body(k, t, "L0 W9");
            k.strict(t, true);
        }
        Check.plainTask(k, 5, "L0 W9");
        k.start();
        Check.releaseEach(k, owner, blocked, 2);
        k.tick(3);
        return Check.latest(k, 6);
    }

    private static void aMissOfATaskThatIsGivenAMutex() {
        CHECK.due("the latest events, the owner first", missesOf(0, 1),
                "MISS 0@5, FAILED 0@5, GIVEN 1@5, MISS 1@5, FAILED 1@5, GIVEN 2@5");
        CHECK.due("the latest events, the owner behind it", missesOf(1, 0),
                "BLOCKED 2@2, MISS 0@5, FAILED 0@5, MISS 1@5, FAILED 1@5, GIVEN 2@5");
    }

    private static void noMissOfAJobThatIsDoneOrFailed() {
        TaskKernel k = new TaskKernel(0);
        k.mutex(0, 0);
        Check.plainTask(k, 1, "W1 U0");
        k.task(2, 0, 0, 3, 200);
        Check.body(k, 1, "W3");
        k.start();
        Check.releaseAll(k, 0, 1);
        k.tick(250);
        CHECK.due("the events", Check.events(k), "release 0@0, release 1@0, DONE 1@2, FAILED 0@3");
        CHECK.due("seen(0, 5)", k.seen(0, 5), 0);
        CHECK.due("seen(1, 5)", k.seen(1, 5), 0);
    }

    /** Periods, a mutex, a STRICT task, a budget that is passed and LOST releases, all in one. */
    private static TaskKernel busy() {
        TaskKernel k = new TaskKernel(0);
        k.mutex(1, 0);
        int[][] tasks = {{1, 40, 0, 30, 9}, {4, 9, 2, 4, 200}, {7, 13, 5, 6, 1}};
        String[] bodies = {"L0 W7 U0 W4", "W1 L0 W1", "L0 W2 U0 W1"};
        for (int t = 0; t < 3; t++) {
            k.task(tasks[t][0], tasks[t][1], tasks[t][2], tasks[t][3], tasks[t][4]);
            Check.body(k, t, bodies[t]);
        }
        k.strict(1, true);
        k.start();
        return k;
    }

    private static void ticksAtOnceOrOneByOne() {
        TaskKernel once = busy();
        TaskKernel oneByOne = busy();
        int worked = 0;
        for (int i = 0; i < 500; i++) {
            worked += oneByOne.tick(1);
        }
        CHECK.due("tick(500)", once.tick(500), worked);
        CHECK.due("all that can be seen behind it", Check.whole(once), Check.whole(oneByOne));
    }

    /** The event of number i, from 0, is at time i: a release, and then a LOST one behind each tick. */
    private static void eventsAreKeptUpToForty() {
        TaskKernel k = new TaskKernel(0);
        Check.plainTask(k, 1, "W20 W20 W20 W20 W20 W20 W20");
        k.start();
        for (int n = 1; n <= 121; n++) {
            k.release(0);
            int kept = Math.min(n, 40);
            String what = " of " + n + " events";
            CHECK.due("look(5)" + what, k.look(5), n);
            CHECK.due("event(0, 1)" + what, k.event(0, 1), n - 1);
            CHECK.due("event(" + (kept - 1) + ", 1)" + what, k.event(kept - 1, 1), n - kept);
            CHECK.due("event(" + (kept - 1) + ", 0)" + what, k.event(kept - 1, 0), n == kept ? 0 : 1);
            CHECK.due("event(" + kept + ", 1)" + what, k.event(kept, 1), -1);
            k.tick(1);
        }
    }
}
