/** Promise 8 with mutexes: GOING ON over LOCK and UNLOCK, whom a mutex is GIVEN to, and the urgency that is lent. */
public final class Promise08MutexesTest {
    private static final Check CHECK = new Check("Promise08MutexesTest");

    public static void main(String[] args) {
        inversion();
        inversionWithDeadlines();
        ceilings();
        givenToTheMostUrgent();
        givenByLentUrgency();
        allAreGivenInTheirOrder();
        failures();
        ceilingFailures();
        readyBehindTheLock();
        unlockDoesNotStopIt();
        strictAtAMutex();
        ring();
        CHECK.end();
    }

    /** Task 0 owns the mutex that task 2, the most urgent one, needs; task 1 stands between them. */
    private static String inverted(int protocol) {
        TaskKernel k = new TaskKernel(0);
        k.mutex(protocol, 9);
        Check.plainTask(k, 1, "L0 W3 U0");
        Check.plainTask(k, 5, "W3");
        Check.plainTask(k, 9, "L0 W1");
        return playInverted(k);
    }

    /** The urgency of task 0 and the state of task 2 behind the first tick with all three, and who works from there. */
    private static String playInverted(TaskKernel k) {
        k.start();
        k.release(0);
        k.tick(1);
        k.release(1);
        k.release(2);
        String first = Check.workers(k, 1);
        return k.seen(0, 2) + " " + k.seen(2, 0) + " " + first + Check.workers(k, 6);
    }

    private static void inversion() {
        CHECK.due("urgency of 0, state of 2, who works: PLAIN", inverted(0), "1 2 111002.");
        CHECK.due("urgency of 0, state of 2, who works: LENDING", inverted(1), "9 2 002111.");
        // Owning the CEILING makes task 0 as urgent as task 2, and it worked last.
        CHECK.due("urgency of 0, state of 2, who works: CEILING", inverted(2), "9 1 002111.");
    }

    private static String invertedWithDeadlines(int protocol) {
        TaskKernel k = new TaskKernel(1);
        k.mutex(protocol, 31);
        k.task(31, 0, 0, 100, 200);
        k.task(1, 0, 0, 50, 200);
        k.task(1, 0, 0, 20, 200);
        Check.body(k, 0, "L0 W3 U0");
        Check.body(k, 1, "W3");
        Check.body(k, 2, "L0 W1");
        return playInverted(k);
    }

    private static void inversionWithDeadlines() {
        CHECK.due("DEADLINES, PLAIN", invertedWithDeadlines(0), "100 2 111002.");
        CHECK.due("DEADLINES, LENDING", invertedWithDeadlines(1), "21 2 002111.");
        CHECK.due("DEADLINES, CEILING counts for nothing", invertedWithDeadlines(2), "100 2 111002.");
    }

    private static void ceilings() {
        TaskKernel k = new TaskKernel(0);
        k.mutex(2, 6);
        k.mutex(2, 8);
        k.mutex(2, 3);
        Check.plainTask(k, 3, "L0 W1 L1 W1 L2 W1 U1 W1 U0 W1");
        k.start();
        k.release(0);
        int[] due = {8, 8, 6, 3, 0};
        for (int i = 0; i < due.length; i++) {
            k.tick(1);
            CHECK.due("seen(0, 2) behind tick " + (i + 1), k.seen(0, 2), due[i]);
        }
    }

    private static void givenToTheMostUrgent() {
        TaskKernel k = new TaskKernel(0);
        k.mutex(0, 0);
        Check.plainTask(k, 1, "L0 W5 U0 W1");
        Check.plainTask(k, 3, "L0 W1");
        Check.plainTask(k, 7, "L0 W1");
        Check.plainTask(k, 7, "L0 W1");
        k.start();
        int[] order = {0, 1, 3, 2};
        for (int t : order) {
            k.release(t);
            k.tick(1);
        }
        CHECK.due("held(0, 1)", k.held(0, 1), 3);
        k.tick(9);
        CHECK.due("the events", Check.events(k), "release 0@0, release 1@1, BLOCKED 1@1, release 3@2, BLOCKED 3@2, "
                + "release 2@3, BLOCKED 2@3, GIVEN 3@4, DONE 3@5, GIVEN 2@5, DONE 2@6, GIVEN 1@6, DONE 1@7, DONE 0@8");
    }

    /** Task 1 waits with the urgency 9 of task 3, ahead of task 2. */
    private static void givenByLentUrgency() {
        TaskKernel k = new TaskKernel(0);
        k.mutex(0, 0);
        k.mutex(1, 0);
        Check.plainTask(k, 1, "L0 W5 U0 W1");
        Check.plainTask(k, 2, "L1 L0 W1");
        Check.plainTask(k, 3, "L0 W1");
        Check.plainTask(k, 9, "L1 W1");
        k.start();
        for (int t = 0; t < 4; t++) {
            k.release(t);
            k.tick(1);
        }
        CHECK.due("seen(1, 2)", k.seen(1, 2), 9);
        CHECK.due("seen(0, 2): a PLAIN mutex lends nothing", k.seen(0, 2), 1);
        k.tick(6);
        CHECK.due("the latest events", Check.latest(k, 7),
                "GIVEN 1@4, DONE 1@5, GIVEN 2@5, GIVEN 3@5, DONE 3@6, DONE 2@7, DONE 0@8");
    }

    /** Task 0 locks 3, 1 and 2 and ends with them; they are given as 1, 2, 3. */
    private static void allAreGivenInTheirOrder() {
        TaskKernel k = new TaskKernel(0);
        for (int m = 0; m < 4; m++) {
            k.mutex(0, 0);
        }
        Check.plainTask(k, 1, "L3 L1 L2 W2");
        Check.plainTask(k, 7, "L3 W1");
        Check.plainTask(k, 6, "L2 W1");
        Check.plainTask(k, 5, "L1 W1");
        k.start();
        k.release(0);
        k.tick(1);
        for (int t = 1; t < 4; t++) {
            k.release(t);
        }
        k.tick(1);
        CHECK.due("the latest events", Check.latest(k, 4), "DONE 0@1, GIVEN 3@1, GIVEN 2@1, GIVEN 1@1");
        for (int m = 1; m < 4; m++) {
            CHECK.due("held(" + m + ", 0)", k.held(m, 0), 4 - m);
        }
    }

    private static void failures() {
        TaskKernel k = new TaskKernel(0);
        k.mutex(1, 0);
        k.mutex(0, 0);
        Check.plainTask(k, 1, "L0 W2 L0 W1");
        Check.plainTask(k, 2, "U0 W1");
        Check.plainTask(k, 3, "L1 U1 U1 W1");
        Check.plainTask(k, 9, "L0 W1");
        k.start();
        k.release(0);
        k.tick(1);
        k.release(1);
        k.release(2);
        k.release(3);
        CHECK.due("tick(1)", k.tick(1), 1);
        CHECK.due("the events: LOCK of an own mutex", Check.events(k), "release 0@0, release 1@1, release 2@1, "
                + "release 3@1, BLOCKED 3@1, FAILED 0@1, GIVEN 3@1");
        k.tick(2);
        CHECK.due("the latest events: UNLOCK of a free mutex", Check.latest(k, 3),
                "DONE 3@2, FAILED 2@3, FAILED 1@3");
        for (int t = 0; t < 3; t++) {
            CHECK.due("seen(" + t + ", 4)", k.seen(t, 4), 1);
            CHECK.due("seen(" + t + ", 0)", k.seen(t, 0), 0);
            CHECK.due("seen(" + t + ", 3)", k.seen(t, 3), 0);
        }
        unlockOfAnothers();
    }

    private static void unlockOfAnothers() {
        TaskKernel k = new TaskKernel(0);
        k.mutex(0, 0);
        Check.plainTask(k, 1, "L0 W5");
        Check.plainTask(k, 2, "W1 U0 W1");
        k.start();
        k.release(0);
        k.tick(1);
        k.release(1);
        k.tick(1);
        CHECK.due("the latest events", Check.latest(k, 2), "release 1@1, FAILED 1@1");
        CHECK.due("held(0, 0)", k.held(0, 0), 0);
    }

    private static void ceilingFailures() {
        TaskKernel k = new TaskKernel(0);
        k.mutex(2, 5);
        k.mutex(2, 9);
        Check.plainTask(k, 3, "L1 L0 W1 U1 W4");
        Check.plainTask(k, 6, "L0 W1");
        Check.plainTask(k, 5, "L0 W1");
        k.start();
        k.release(0);
        k.tick(1);
        CHECK.due("held(0, 0): its priority counts, not its urgency", k.held(0, 0), 0);
        k.tick(1);
        k.release(1);
        k.tick(1);
        CHECK.due("the latest events: FAILED though another one owns it", Check.latest(k, 2),
                "release 1@2, FAILED 1@2");
        CHECK.due("held(0, 0)", k.held(0, 0), 0);
        k.tick(2);
        k.release(2);
        k.tick(1);
        CHECK.due("the latest events: the ceiling itself is not above", Check.latest(k, 2), "release 2@5, DONE 2@5");
        TaskKernel d = new TaskKernel(1);
        d.mutex(2, 5);
        d.task(31, 0, 0, 9, 9);
        Check.body(d, 0, "L0 W1");
        d.start();
        d.release(0);
        d.tick(1);
        CHECK.due("the events: no ceiling with DEADLINES", Check.events(d), "release 0@0, DONE 0@0");
    }

    private static void readyBehindTheLock() {
        TaskKernel k = new TaskKernel(0);
        k.mutex(0, 0);
        Check.plainTask(k, 1, "L0 W2 U0 W1");
        Check.plainTask(k, 5, "W1 L0");
        k.start();
        k.release(0);
        k.tick(1);
        k.release(1);
        k.tick(1);
        CHECK.due("seen(1, 1): BLOCKED at the LOCK", k.seen(1, 1), 1);
        k.tick(1);
        CHECK.due("seen(1, 0)", k.seen(1, 0), 1);
        CHECK.due("seen(1, 1): behind the LOCK, which was the last step", k.seen(1, 1), 2);
        CHECK.due("held(0, 0)", k.held(0, 0), 1);
        k.tick(1);
        CHECK.due("the latest events", Check.latest(k, 3), "GIVEN 1@2, DONE 1@3, DONE 0@3");
        CHECK.due("seen(1, 8): over in 3. of the tick at 3", k.seen(1, 8), 2);
        CHECK.due("seen(0, 8): over in 4. of the tick at 3", k.seen(0, 8), 4);
        CHECK.due("held(0, 0)", k.held(0, 0), -1);
    }

    /** Task 0 gives mutex 0 to the more urgent task 1, and yet locks mutex 1 ahead of it. */
    private static void unlockDoesNotStopIt() {
        TaskKernel k = new TaskKernel(0);
        k.mutex(0, 0);
        k.mutex(0, 0);
        Check.plainTask(k, 1, "L0 W2 U0 L1 W1");
        Check.plainTask(k, 5, "L0 L1 W1");
        k.start();
        k.release(0);
        k.tick(1);
        k.release(1);
        k.tick(1);
        CHECK.due("held(0, 0)", k.held(0, 0), 1);
        CHECK.due("held(1, 0)", k.held(1, 0), 0);
        k.tick(2);
        CHECK.due("the latest events", Check.latest(k, 5),
                "GIVEN 1@1, BLOCKED 1@2, DONE 0@2, GIVEN 1@2, DONE 1@3");
    }

    private static void strictAtAMutex() {
        TaskKernel k = new TaskKernel(0);
        k.mutex(1, 0);
        k.task(1, 0, 0, 6, 200);
        k.task(5, 0, 0, 2, 200);
        k.task(7, 0, 0, 50, 200);
        Check.body(k, 0, "L0 W9");
        Check.body(k, 1, "L0 W1");
        Check.body(k, 2, "L0 W1");
        k.strict(0, true);
        k.strict(1, true);
        k.start();
        k.release(0);
        k.tick(1);
        k.release(1);
        k.tick(1);
        CHECK.due("seen(0, 2) while 1 is BLOCKED", k.seen(0, 2), 5);
        k.tick(2);
        CHECK.due("the latest events", Check.latest(k, 3), "BLOCKED 1@1, MISS 1@3, FAILED 1@3");
        CHECK.due("seen(0, 2) behind it", k.seen(0, 2), 1);
        CHECK.due("held(0, 1) behind it", k.held(0, 1), 0);
        CHECK.due("seen(1, 9) behind it", k.seen(1, 9), -1);
        k.release(2);
        CHECK.due("who works: 2 gets the mutex in 1. of the tick at 6", Check.workers(k, 4), "002.");
        CHECK.due("the latest events", Check.latest(k, 4), "MISS 0@6, FAILED 0@6, GIVEN 2@6, DONE 2@6");
    }

    /** Two tasks wait for one another; the urgency of a third goes through both, and none works any more. */
    private static void ring() {
        TaskKernel k = new TaskKernel(0);
        k.mutex(1, 0);
        k.mutex(1, 0);
        Check.plainTask(k, 1, "L0 W2 L1 W1");
        Check.plainTask(k, 2, "L1 W1 L0 W1");
        Check.plainTask(k, 9, "L0 W1");
        k.start();
        k.release(0);
        k.tick(1);
        k.release(1);
        CHECK.due("who works", Check.workers(k, 4), "10..");
        CHECK.due("seen(0, 2)", k.seen(0, 2), 2);
        CHECK.due("seen(1, 2)", k.seen(1, 2), 2);
        k.release(2);
        CHECK.due("tick(20)", k.tick(20), 0);
        CHECK.due("seen(0, 2)", k.seen(0, 2), 9);
        CHECK.due("seen(1, 2)", k.seen(1, 2), 9);
        CHECK.due("held(0, 1)", k.held(0, 1), 2);
    }
}
