/** Terms, GOING ON: the edges of LOCK, UNLOCK, GIVEN, FAILS and over. */
public final class TermsGoingOnTest {
    private static final Check CHECK = new Check("TermsGoingOnTest");

    public static void main(String[] args) {
        lockOfAnOwnMutexWithEachProtocol();
        aFreeMutexIsNotNoted();
        lockBehindAnUnlock();
        blockedForLongestNotReadyForLongest();
        givenByDueTimes();
        givenByTheUrgencyAsItIsThen();
        failedGivesAllInTheirOrder();
        failedInARing();
        failedInARingLendsNoMore();
        overWithoutTimeLetsOthersGoOn();
        CHECK.end();
    }

    private static void lockOfAnOwnMutexWithEachProtocol() {
        for (int deadlines = 0; deadlines < 2; deadlines++) {
            for (int protocol = 0; protocol < 3; protocol++) {
                TaskKernel k = new TaskKernel(deadlines);
                k.mutex(protocol, 5);
                Check.plainTask(k, 5, "L0 W1 L0 W1");
                k.start();
                k.release(0);
                k.tick(5);
                String what = " with protocol " + protocol + " and deadlines " + deadlines;
                CHECK.due("the events" + what, Check.events(k), "release 0@0, FAILED 0@0");
                CHECK.due("held(0, 0)" + what, k.held(0, 0), -1);
            }
        }
    }

    private static void aFreeMutexIsNotNoted() {
        TaskKernel k = new TaskKernel(0);
        k.mutex(0, 0);
        Check.plainTask(k, 1, "L0 W1 U0 L0 W1");
        k.start();
        k.release(0);
        k.tick(5);
        CHECK.due("the events: neither LOCK nor UNLOCK nor the end", Check.events(k), "release 0@0, DONE 0@1");
        CHECK.due("held(0, 0)", k.held(0, 0), -1);
    }

    /** The UNLOCK gives the mutex to task 1, so that the LOCK behind it is BLOCKED. */
    private static void lockBehindAnUnlock() {
        TaskKernel k = new TaskKernel(0);
        k.mutex(0, 0);
        Check.plainTask(k, 1, "L0 W2 U0 L0 W1");
        Check.plainTask(k, 5, "L0 W1 U0 W1");
        k.start();
        Check.releaseEach(k, 0, 1);
        CHECK.due("held(0, 0)", k.held(0, 0), 1);
        k.tick(3);
        CHECK.due("the latest events", Check.latest(k, 6),
                "BLOCKED 1@1, GIVEN 1@1, BLOCKED 0@1, GIVEN 0@2, DONE 1@3, DONE 0@4");
    }

    /** Task 1 becomes READY ahead of task 2 and BLOCKED behind it; task 3 makes it as urgent as that. */
    private static void blockedForLongestNotReadyForLongest() {
        TaskKernel k = new TaskKernel(0);
        k.mutex(0, 0);
        k.mutex(1, 0);
        Check.plainTask(k, 1, "L0 W4 U0 W1");
        Check.plainTask(k, 3, "L1 L0 W1");
        Check.plainTask(k, 5, "L0 W1");
        Check.plainTask(k, 5, "L1 W1");
        k.start();
        Check.releaseEach(k, 0);
        Check.releaseAll(k, 1, 2);
        k.tick(1);
        Check.releaseEach(k, 3);
        CHECK.due("the urgencies", Check.urgencies(k, 4), "1 5 5 5");
        k.tick(5);
        CHECK.due("the latest events", Check.latest(k, 11), "BLOCKED 2@1, BLOCKED 1@1, release 3@2, BLOCKED 3@2, "
                + "GIVEN 2@3, DONE 2@4, GIVEN 1@4, DONE 1@5, GIVEN 3@5, DONE 3@6, DONE 0@7");
    }

    /** Due at 60, 40 and 40: tasks 1, 2 and 3, of which 3 is BLOCKED ahead of 2. */
    private static void givenByDueTimes() {
        TaskKernel k = new TaskKernel(1);
        k.mutex(0, 0);
        Check.timedTask(k, 150, "L0 W5 U0 W1");
        Check.timedTask(k, 59, "L0 W1");
        Check.timedTask(k, 37, "L0 W1");
        Check.timedTask(k, 38, "L0 W1");
        k.start();
        Check.releaseEach(k, 0, 1, 3, 2);
        CHECK.due("the urgencies", Check.urgencies(k, 4), "150 60 40 40");
        k.tick(5);
        CHECK.due("the latest events", Check.latest(k, 7),
                "GIVEN 3@4, DONE 3@5, GIVEN 2@5, DONE 2@6, GIVEN 1@6, DONE 1@7, DONE 0@8");
    }

    /** Task 3 is BLOCKED, and lends to task 1, at the very end of the tick ahead of the one in which task 0 FAILS. */
    private static void givenByTheUrgencyAsItIsThen() {
        TaskKernel k = new TaskKernel(0);
        k.mutex(0, 0);
        k.mutex(1, 0);
        k.task(1, 0, 0, 5, 200);
        Check.body(k, 0, "L0 W9");
        Check.plainTask(k, 3, "L1 L0 W1");
        Check.plainTask(k, 4, "L0 W1");
        Check.plainTask(k, 9, "W2 L1 W1");
        k.strict(0, true);
        k.start();
        Check.releaseEach(k, 0, 1, 2, 3);
        k.tick(2);
        CHECK.due("the latest events", Check.latest(k, 7),
                "BLOCKED 3@4, MISS 0@5, FAILED 0@5, GIVEN 1@5, DONE 1@5, GIVEN 2@5, GIVEN 3@5");
    }

    private static void failedGivesAllInTheirOrder() {
        TaskKernel k = new TaskKernel(0);
        for (int m = 0; m < 4; m++) {
            k.mutex(0, 0);
        }
        Check.plainTask(k, 1, "L2 L0 L1 W2 U3 W1");
        Check.plainTask(k, 7, "L2 W1");
        Check.plainTask(k, 6, "L1 W1");
        Check.plainTask(k, 5, "L0 W1");
        k.start();
        Check.releaseEach(k, 0);
        Check.releaseAll(k, 1, 2, 3);
        k.tick(1);
        CHECK.due("the latest events", Check.latest(k, 4), "FAILED 0@1, GIVEN 3@1, GIVEN 2@1, GIVEN 1@1");
        CHECK.due("held(3, 0)", k.held(3, 0), -1);
    }

    /** Two tasks wait for one another until one of them, which is STRICT, FAILS where it is BLOCKED. */
    private static void failedInARing() {
        TaskKernel k = new TaskKernel(0);
        k.mutex(0, 0);
        k.mutex(0, 0);
        Check.plainTask(k, 1, "L0 W2 L1 W1");
        k.task(2, 0, 0, 5, 200);
        Check.body(k, 1, "L1 W1 L0 W1");
        k.strict(1, true);
        k.start();
        Check.releaseEach(k, 0);
        k.release(1);
        CHECK.due("who works", Check.workers(k, 7), "10...0.");
        CHECK.due("the latest events", Check.latest(k, 6),
                "BLOCKED 1@1, BLOCKED 0@2, MISS 1@6, FAILED 1@6, GIVEN 0@6, DONE 0@6");
        CHECK.due("held(0, 0)", k.held(0, 0), -1);
        CHECK.due("held(1, 0)", k.held(1, 0), -1);
    }

    /**
     * Task 0 is BLOCKED at mutex 0 of task 1, which is BLOCKED with task 2 at mutex 1 of task 0. When task 0 FAILS it
     * has no job that could wait and lend, so that task 2 is the most urgent one where mutex 1 is GIVEN. (The document
     * could be read as if task 0 were IDLE only behind that; then task 1 would get it.)
     */
    private static void failedInARingLendsNoMore() {
        TaskKernel k = new TaskKernel(0);
        k.mutex(1, 0);
        k.mutex(1, 0);
        k.task(9, 0, 0, 4, 200);
        Check.body(k, 0, "L1 W1 L0 W1");
        Check.plainTask(k, 2, "L0 W2 L1 W1");
        Check.plainTask(k, 5, "L1 W1");
        k.strict(0, true);
        k.start();
        Check.releaseEach(k, 1, 0);
        k.tick(1);
        Check.releaseEach(k, 2);
        CHECK.due("the urgencies in the ring", Check.urgencies(k, 3), "9 9 5");
        k.tick(2);
        CHECK.due("the latest events", Check.latest(k, 9), "BLOCKED 0@1, BLOCKED 1@2, release 2@3, BLOCKED 2@3, "
                + "MISS 0@5, FAILED 0@5, GIVEN 2@5, DONE 2@5, GIVEN 1@5");
    }

    /** Task 0 is over in part 3 of a tick, and task 1, to which it gives mutex 0, is so in the same one. */
    private static void overWithoutTimeLetsOthersGoOn() {
        TaskKernel k = new TaskKernel(0);
        k.mutex(0, 0);
        k.mutex(0, 0);
        Check.plainTask(k, 9, "L0 L1");
        Check.plainTask(k, 5, "L0");
        Check.plainTask(k, 1, "L1 W2 U1 W1");
        k.start();
        Check.releaseEach(k, 2);
        Check.releaseAll(k, 0, 1);
        k.tick(2);
        CHECK.due("the latest events", Check.latest(k, 7),
                "BLOCKED 0@1, BLOCKED 1@1, GIVEN 0@1, DONE 0@2, GIVEN 1@2, DONE 1@2, DONE 2@2");
        CHECK.due("seen(0, 8)", k.seen(0, 8), 1);
        CHECK.due("seen(1, 8)", k.seen(1, 8), 1);
        CHECK.due("seen(2, 8)", k.seen(2, 8), 3);
    }
}
