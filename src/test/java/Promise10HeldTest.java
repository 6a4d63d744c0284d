/** Promise 10: held. */
public final class Promise10HeldTest {
    private static final Check CHECK = new Check("Promise10HeldTest");

    public static void main(String[] args) {
        noSuch();
        ownersAndWaiters();
        sevenWaiters();
        ceils();
        CHECK.end();
    }

    private static void noSuch() {
        TaskKernel k = new TaskKernel(0);
        k.mutex(0, 0);
        k.mutex(2, 5);
        int[] none = {-1, 2, 4, Integer.MIN_VALUE, Integer.MAX_VALUE};
        for (int m : none) {
            for (int w = 0; w < 3; w++) {
                CHECK.due("held(" + m + ", " + w + ")", k.held(m, w), -1);
            }
        }
        int[] wrong = {-1, 3, Integer.MIN_VALUE, Integer.MAX_VALUE};
        for (int w : wrong) {
            CHECK.due("held(1, " + w + ")", k.held(1, w), -1);
        }
    }

    private static void ownersAndWaiters() {
        TaskKernel k = new TaskKernel(0);
        k.mutex(0, 0);
        k.mutex(1, 0);
        Check.plainTask(k, 5, "W1");
        Check.plainTask(k, 1, "L1 W4 U1 W1");
        Check.plainTask(k, 2, "L1 W1 U1");
        Check.plainTask(k, 3, "L1 W1 U1");
        CHECK.due("held(1, 0) ahead of the START", k.held(1, 0), -1);
        CHECK.due("held(1, 1) ahead of the START", k.held(1, 1), 0);
        k.start();
        int[] blocked = {0, 1, 2, 1, 0};
        int[] owners = {1, 1, 1, 3, 2};
        for (int i = 0; i < 5; i++) {
            if (i < 3) {
                k.release(1 + i);
            }
            k.tick(1);
            CHECK.due("held(1, 0) behind tick " + (i + 1), k.held(1, 0), owners[i]);
            CHECK.due("held(1, 1) behind tick " + (i + 1), k.held(1, 1), blocked[i]);
            CHECK.due("held(0, 0) behind tick " + (i + 1), k.held(0, 0), -1);
            CHECK.due("held(0, 1) behind tick " + (i + 1), k.held(0, 1), 0);
        }
        k.tick(1);
        CHECK.due("held(1, 0) at last", k.held(1, 0), -1);
    }

    /** Task 3 owns the mutex; all the others, the first and the last one among them, are BLOCKED there. */
    private static void sevenWaiters() {
        TaskKernel k = new TaskKernel(0);
        k.mutex(0, 0);
        for (int t = 0; t < 8; t++) {
            Check.plainTask(k, t == 3 ? 1 : 5, "L0 W3");
        }
        k.start();
        Check.releaseEach(k, 3);
        Check.releaseAll(k, 0, 1, 2, 4, 5, 6, 7);
        CHECK.due("held(0, 1) ahead of the tick", k.held(0, 1), 0);
        k.tick(1);
        CHECK.due("held(0, 1)", k.held(0, 1), 7);
        k.tick(1);
        CHECK.due("held(0, 0) behind the end of its job", k.held(0, 0), 0);
        CHECK.due("held(0, 1) behind the end of its job", k.held(0, 1), 6);
    }

    private static void ceils() {
        TaskKernel k = new TaskKernel(1);
        k.mutex(2, 31);
        k.mutex(0, 0);
        k.mutex(1, 0);
        CHECK.due("held(0, 2) without tasks", k.held(0, 2), 0);
        Check.plainTask(k, 4, "L0 W1 L1");
        Check.plainTask(k, 8, "L1 W1");
        Check.plainTask(k, 20, "U1 U2 W2");
        Check.plainTask(k, 6, "L1 L0");
        CHECK.due("held(0, 2)", k.held(0, 2), 6);
        CHECK.due("held(1, 2)", k.held(1, 2), 8);
        CHECK.due("held(2, 2): an UNLOCK alone, and a WORK of 2, are no LOCK", k.held(2, 2), 0);
        k.start();
        k.tick(3);
        CHECK.due("held(1, 2) behind the START", k.held(1, 2), 8);
    }
}
