/** Terms, URGENCY: what is lent and what is not, and who goes first among tasks that are alike. */
public final class TermsUrgencyTest {
    private static final Check CHECK = new Check("TermsUrgencyTest");

    public static void main(String[] args) {
        blockedAtACeilingLendsNothing();
        aCeilingIsLentOn();
        aLessUrgentLender();
        severalLenders();
        theLongestChain();
        ringWithDeadlines();
        whoIsPutOffStaysReady();
        workedLastThoughBlockedSince();
        dueAlikeReadyForLongest();
        givenAtTheSameTime();
        readyAtTheSameTimeInThreeWays();
        doneInTheOrderOfBecomingReady();
        CHECK.end();
    }

    /** Task 1 has urgency 9 by mutex 1 when it is BLOCKED at mutex 0, whose ceiling 5 is all that task 0 gets. */
    private static void blockedAtACeilingLendsNothing() {
        TaskKernel k = new TaskKernel(0);
        k.mutex(2, 5);
        k.mutex(2, 9);
        k.mutex(0, 0);
        Check.plainTask(k, 1, "L2 W2 L0 W1 U2 W3 U0 W1");
        Check.plainTask(k, 4, "L1 L2 L0 W1");
        k.start();
        Check.releaseEach(k, 0, 1);
        CHECK.due("the urgencies while 1 is BLOCKED at a PLAIN one", Check.urgencies(k, 2), "5 9");
        k.tick(2);
        CHECK.due("seen(1, 9)", k.seen(1, 9), 0);
        CHECK.due("the urgencies while 1 is BLOCKED at a CEILING", Check.urgencies(k, 2), "5 9");
    }

    private static TaskKernel lentCeiling(int deadlines) {
        TaskKernel k = new TaskKernel(deadlines);
        k.mutex(1, 0);
        k.mutex(2, 20);
        k.task(1, 0, 0, 100, 200);
        k.task(3, 0, 0, 50, 200);
        Check.body(k, 0, "L0 W3 U0 W1");
        Check.body(k, 1, "L1 L0 W2");
        k.start();
        Check.releaseEach(k, 0, 1);
        return k;
    }

    private static void aCeilingIsLentOn() {
        TaskKernel k = lentCeiling(0);
        CHECK.due("the urgencies: 20 is lent to task 0", Check.urgencies(k, 2), "20 20");
        k.tick(1);
        CHECK.due("the urgencies behind UNLOCK", Check.urgencies(k, 2), "1 20");
        k = lentCeiling(1);
        CHECK.due("the urgencies with DEADLINES", Check.urgencies(k, 2), "51 51");
        k.tick(1);
        CHECK.due("the urgencies with DEADLINES behind UNLOCK", Check.urgencies(k, 2), "100 51");
    }

    /** Task 1 is BLOCKED at the PLAIN mutex of task 0, and the less urgent task 2 at the LENDING one of task 1. */
    private static String lessUrgentLender(int deadlines) {
        TaskKernel k = new TaskKernel(deadlines);
        k.mutex(1, 0);
        k.mutex(0, 0);
        k.task(1, 0, 0, 100, 200);
        k.task(9, 0, 0, 20, 200);
        k.task(5, 0, 0, 50, 200);
        Check.body(k, 0, "L1 W5 U1");
        Check.body(k, 1, "L0 L1 W1");
        Check.body(k, 2, "L0 W1");
        k.start();
        Check.releaseEach(k, 0, 1, 2);
        return Check.urgencies(k, 3) + ", " + k.held(0, 1) + " " + k.held(1, 1);
    }

    private static void aLessUrgentLender() {
        CHECK.due("the urgencies, and how many are BLOCKED", lessUrgentLender(0), "1 9 5, 1 1");
        CHECK.due("the urgencies, and how many are BLOCKED, with DEADLINES", lessUrgentLender(1), "100 21 52, 1 1");
    }

    /** At mutex 0 of task 0 are BLOCKED 1 and 3, at its mutex 1 task 2. */
    private static void severalLenders() {
        TaskKernel k = new TaskKernel(0);
        k.mutex(1, 0);
        k.mutex(1, 0);
        Check.plainTask(k, 1, "L0 L1 W5 U1 W1 U0 W1");
        Check.plainTask(k, 4, "L0 W1");
        Check.plainTask(k, 6, "L1 W1");
        Check.plainTask(k, 5, "L0 W1");
        k.start();
        Check.releaseEach(k, 0, 1, 3, 2);
        CHECK.due("the urgencies: the greatest of all", Check.urgencies(k, 4), "6 4 6 5");
        k.tick(1);
        CHECK.due("the urgencies behind UNLOCK 1", Check.urgencies(k, 4), "5 4 6 5");
        k.tick(2);
        CHECK.due("the urgencies behind UNLOCK 0", Check.urgencies(k, 4), "1 4 0 5");
    }

    /** Each task but the first waits for the one of the number below, as far as four mutexes reach. */
    private static TaskKernel chainOfFive(int deadlines) {
        TaskKernel k = new TaskKernel(deadlines);
        for (int m = 0; m < 4; m++) {
            k.mutex(1, 0);
        }
        String[] bodies = {"L0 W9", "L1 L0 W1", "L2 L1 W1", "L3 L2 W1", "L3 W1"};
        for (int t = 0; t < 5; t++) {
            k.task(1 + t, 0, 0, 100 - 10 * t, 200);
            Check.body(k, t, bodies[t]);
        }
        k.start();
        Check.releaseEach(k, 0, 1, 2, 3, 4);
        return k;
    }

    private static void theLongestChain() {
        CHECK.due("the urgencies through four LENDING mutexes", Check.urgencies(chainOfFive(0), 5), "5 5 5 5 5");
        CHECK.due("the urgencies with DEADLINES", Check.urgencies(chainOfFive(1), 5), "64 64 64 64 64");
    }

    private static void ringWithDeadlines() {
        TaskKernel k = new TaskKernel(1);
        k.mutex(1, 0);
        k.mutex(1, 0);
        Check.timedTask(k, 50, "L0 W2 L1 W1");
        Check.timedTask(k, 20, "L1 W1 L0 W1");
        Check.timedTask(k, 5, "L0 W1");
        k.start();
        Check.releaseEach(k, 0, 1);
        k.tick(1);
        CHECK.due("the urgencies of two that wait for one another", Check.urgencies(k, 2), "21 21");
        Check.releaseEach(k, 2);
        CHECK.due("the urgencies with a third one", Check.urgencies(k, 3), "8 8 8");
        CHECK.due("tick(50)", k.tick(50), 0);
    }

    /** While task 0 is READY, task 1 locks a free mutex and lets task 2 work; it is READY for longer all the same. */
    private static void whoIsPutOffStaysReady() {
        TaskKernel k = new TaskKernel(0);
        k.mutex(0, 0);
        Check.plainTask(k, 5, "W1");
        Check.plainTask(k, 5, "W2 L0 W2");
        Check.plainTask(k, 9, "W1");
        k.start();
        Check.releaseEach(k, 1, 0);
        CHECK.due("held(0, 0)", k.held(0, 0), 1);
        k.release(2);
        CHECK.due("who works", Check.workers(k, 5), "2110.");
    }

    /** Task 1 works and is BLOCKED in the tick at 1; it is GIVEN the mutex in part 1 of the next one, behind task 2. */
    private static void workedLastThoughBlockedSince() {
        TaskKernel k = new TaskKernel(0);
        k.mutex(0, 0);
        k.task(1, 0, 0, 2, 200);
        Check.body(k, 0, "L0 W9");
        Check.plainTask(k, 5, "W1 L0 W1");
        Check.plainTask(k, 5, "W1");
        k.strict(0, true);
        k.start();
        Check.releaseEach(k, 0);
        Check.releaseAll(k, 1, 2);
        CHECK.due("who works: 2 is READY for longer, but 1 worked last", Check.workers(k, 4), "112.");
        CHECK.due("the latest events", Check.latest(k, 6),
                "BLOCKED 1@1, MISS 0@2, FAILED 0@2, GIVEN 1@2, DONE 1@2, DONE 2@3");
    }

    private static void dueAlikeReadyForLongest() {
        TaskKernel k = new TaskKernel(1);
        Check.timedTask(k, 18, "W1");
        Check.timedTask(k, 20, "W2");
        Check.timedTask(k, 3, "W3");
        k.start();
        Check.releaseAll(k, 1, 2);
        k.tick(2);
        k.release(0);
        CHECK.due("the urgencies", Check.urgencies(k, 3), "20 20 3");
        CHECK.due("who works: 1 is READY for longer than 0", Check.workers(k, 5), "2110.");
    }

    /** Task 0 gives mutex 0 to task 2 and then mutex 1 to task 1, both without time. */
    private static void givenAtTheSameTime() {
        TaskKernel k = new TaskKernel(0);
        k.mutex(0, 0);
        k.mutex(0, 0);
        Check.plainTask(k, 1, "L0 L1 W3");
        Check.plainTask(k, 5, "L1 W1");
        Check.plainTask(k, 5, "L0 W1");
        k.start();
        Check.releaseEach(k, 0);
        Check.releaseAll(k, 1, 2);
        k.tick(2);
        CHECK.due("the latest events", Check.latest(k, 3), "DONE 0@2, GIVEN 2@2, GIVEN 1@2");
        CHECK.due("who works: 2 became READY first", Check.workers(k, 3), "21.");
    }

    /** All at time 4: 3 is released ahead of the tick, 2 gets a mutex in its part 1, 0 is released in its part 2. */
    private static void readyAtTheSameTimeInThreeWays() {
        TaskKernel k = new TaskKernel(0);
        k.mutex(0, 0);
        k.task(5, 200, 4, 200, 200);
        k.task(1, 0, 0, 4, 200);
        Check.body(k, 0, "W1");
        Check.body(k, 1, "L0 W9");
        Check.plainTask(k, 5, "L0 W1");
        Check.plainTask(k, 5, "W1");
        k.strict(1, true);
        k.start();
        Check.releaseEach(k, 1, 2);
        k.tick(2);
        k.release(3);
        CHECK.due("who works", Check.workers(k, 4), "320.");
        CHECK.due("the latest events", Check.latest(k, 8), "release 3@4, MISS 1@4, FAILED 1@4, GIVEN 2@4, "
                + "release 0@4, DONE 3@4, DONE 2@5, DONE 0@6");
    }

    private static void doneInTheOrderOfBecomingReady() {
        TaskKernel k = new TaskKernel(0);
        for (int t = 0; t < 3; t++) {
            k.task(5, 0, 0, 9, 9);
        }
        k.start();
        Check.releaseAll(k, 2, 0, 1);
        k.tick(1);
        CHECK.due("the latest events", Check.latest(k, 3), "DONE 2@0, DONE 0@0, DONE 1@0");
    }
}
