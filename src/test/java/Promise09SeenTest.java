/** Promise 9: seen. */
public final class Promise09SeenTest {
    private static final Check CHECK = new Check("Promise09SeenTest");

    public static void main(String[] args) {
        noSuch();
        eachW();
        longest();
        urgencyOfAnIdleTask();
        urgencyThroughAChain();
        urgencyThroughAChainWithDeadlines();
        CHECK.end();
    }

    private static void noSuch() {
        TaskKernel k = new TaskKernel(0);
        k.task(1, 0, 0, 9, 9);
        k.task(1, 0, 0, 9, 9);
        int[] none = {-1, 2, 8, Integer.MIN_VALUE, Integer.MAX_VALUE};
        for (int t : none) {
            CHECK.due("seen(" + t + ", 0)", k.seen(t, 0), -1);
            CHECK.due("seen(" + t + ", 3)", k.seen(t, 3), -1);
        }
        int[] wrong = {-1, 10, Integer.MIN_VALUE, Integer.MAX_VALUE};
        for (int w : wrong) {
            CHECK.due("seen(1, " + w + ")", k.seen(1, w), -1);
        }
    }

    private static String row(TaskKernel k, int t) {
        StringBuilder row = new StringBuilder();
        for (int w = 0; w <= 9; w++) {
            row.append(w == 0 ? "" : " ").append(k.seen(t, w));
        }
        return row.toString();
    }

    /** Rows: state, step, urgency, DONE, FAILED, MISSES, LOST, units, longest, BLOCKED at. */
    private static void eachW() {
        TaskKernel k = new TaskKernel(0);
        k.mutex(0, 0);
        k.mutex(0, 0);
        k.task(4, 0, 0, 6, 200);
        k.task(6, 0, 0, 3, 200);
        Check.body(k, 0, "W1 L1 W4 U1");
        Check.body(k, 1, "L1 W2 U0");
        CHECK.due("all of task 0 ahead of the START", row(k, 0), "0 -1 0 0 0 0 0 0 0 -1");
        k.start();
        k.release(0);
        CHECK.due("all of task 0 at its release", row(k, 0), "1 0 4 0 0 0 0 0 0 -1");
        k.tick(2);
        CHECK.due("all of task 0 at time 2", row(k, 0), "1 2 4 0 0 0 0 2 0 -1");
        k.release(1);
        k.tick(1);
        k.release(1);
        CHECK.due("all of task 1 at time 3", row(k, 1), "2 0 6 0 0 0 1 0 0 1");
        k.tick(2);
        CHECK.due("all of task 0 at time 5", row(k, 0), "0 -1 0 1 0 0 0 5 5 -1");
        CHECK.due("all of task 1 at time 5", row(k, 1), "1 1 6 0 0 0 1 0 0 -1");
        k.tick(1);
        CHECK.due("all of task 1 at time 6", row(k, 1), "1 1 6 0 0 1 1 1 0 -1");
        k.tick(1);
        CHECK.due("all of task 1 at time 7: UNLOCK of what it does not own", row(k, 1), "0 -1 0 0 1 1 1 2 0 -1");
    }

    private static void longest() {
        TaskKernel k = new TaskKernel(0);
        Check.plainTask(k, 1, "W2");
        Check.plainTask(k, 9, "W3");
        k.task(1, 0, 0, 9, 9);
        k.start();
        k.release(0);
        k.tick(1);
        CHECK.due("seen(0, 8) ahead of DONE", k.seen(0, 8), 0);
        k.tick(1);
        CHECK.due("seen(0, 8)", k.seen(0, 8), 2);
        k.release(0);
        k.release(1);
        k.tick(5);
        CHECK.due("seen(0, 8) behind a longer one", k.seen(0, 8), 5);
        CHECK.due("seen(1, 8)", k.seen(1, 8), 3);
        k.release(0);
        k.tick(3);
        CHECK.due("seen(0, 8) behind a shorter one", k.seen(0, 8), 5);
        k.release(2);
        k.release(1);
        k.tick(4);
        CHECK.due("seen(2, 8): over in 3. of a tick", k.seen(2, 8), 3);
    }

    private static void urgencyOfAnIdleTask() {
        for (int deadlines = 0; deadlines < 2; deadlines++) {
            TaskKernel k = new TaskKernel(deadlines);
            k.task(5, 0, 0, 9, 9);
            Check.body(k, 0, "W1");
            k.start();
            String what = "seen(0, 2), deadlines = " + deadlines;
            CHECK.due(what + ", ahead of its job", k.seen(0, 2), 0);
            k.release(0);
            CHECK.due(what + ", with a job", k.seen(0, 2), deadlines == 0 ? 5 : 9);
            k.tick(1);
            CHECK.due(what + ", behind its job", k.seen(0, 2), 0);
        }
    }

    /** Task 2 waits for task 1 at a LENDING mutex, and 1 for 0 at another one; task 3 waits for 0 at a PLAIN one. */
    private static TaskKernel chain(int deadlines) {
        TaskKernel k = new TaskKernel(deadlines);
        k.mutex(1, 0);
        k.mutex(1, 0);
        k.mutex(0, 0);
        k.task(1, 0, 0, 90, 200);
        k.task(3, 0, 0, 80, 200);
        k.task(7, 0, 0, 50, 200);
        k.task(9, 0, 0, 30, 200);
        Check.body(k, 0, "L0 L2 W9 U0 W9");
        Check.body(k, 1, "L1 L0 W2");
        Check.body(k, 2, "L1 W1");
        Check.body(k, 3, "L2 W1");
        k.start();
        for (int t = 0; t < 4; t++) {
            k.release(t);
            k.tick(1);
        }
        return k;
    }

    private static String urgencies(TaskKernel k) {
        return k.seen(0, 2) + " " + k.seen(1, 2) + " " + k.seen(2, 2) + " " + k.seen(3, 2);
    }

    private static void urgencyThroughAChain() {
        TaskKernel k = chain(0);
        CHECK.due("the urgencies", urgencies(k), "7 7 7 9");
        k.tick(5);
        CHECK.due("the urgencies behind UNLOCK 0", urgencies(k), "1 7 7 9");
    }

    private static void urgencyThroughAChainWithDeadlines() {
        TaskKernel k = chain(1);
        CHECK.due("the urgencies", urgencies(k), "52 52 52 33");
        k.tick(5);
        CHECK.due("the urgencies behind UNLOCK 0", urgencies(k), "90 52 52 33");
    }
}
