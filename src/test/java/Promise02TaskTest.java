/** Promise 2: task. */
public final class Promise02TaskTest {
    private static final Check CHECK = new Check("Promise02TaskTest");

    public static void main(String[] args) {
        numbersAndEdges();
        wrongNumbers();
        atMostEight();
        notBehindTheStart();
        eachNumberCounts();
        CHECK.end();
    }

    private static void numbersAndEdges() {
        TaskKernel k = new TaskKernel(0);
        CHECK.due("task, all least", k.task(1, 0, 0, 1, 1), 0);
        CHECK.due("task, period 2", k.task(1, 2, 0, 1, 1), 1);
        CHECK.due("task, all most", k.task(31, 200, 50, 200, 200), 2);
        CHECK.due("look(1)", k.look(1), 3);
        for (int w = 0; w <= 9; w++) {
            CHECK.due("seen(2, " + w + ") of a new task", k.seen(2, w), w == 1 || w == 9 ? -1 : 0);
        }
        CHECK.due("response(2) without steps", k.response(2), 0);
    }

    private static void wrongNumbers() {
        int[][] wrong = {
            {0, 0, 0, 1, 1}, {32, 0, 0, 1, 1}, {-1, 0, 0, 1, 1}, {Integer.MAX_VALUE, 0, 0, 1, 1},
            {1, 1, 0, 1, 1}, {1, -1, 0, 1, 1}, {1, 201, 0, 1, 1}, {1, Integer.MIN_VALUE, 0, 1, 1},
            {1, 0, -1, 1, 1}, {1, 0, 51, 1, 1},
            {1, 0, 0, 0, 1}, {1, 0, 0, 201, 1}, {1, 0, 0, -5, 1},
            {1, 0, 0, 1, 0}, {1, 0, 0, 1, 201}, {1, 0, 0, 1, Integer.MIN_VALUE},
        };
        TaskKernel k = new TaskKernel(0);
        for (int[] n : wrong) {
            CHECK.dueArgument(k, "task(" + n[0] + ", " + n[1] + ", " + n[2] + ", " + n[3] + ", " + n[4] + ")",
                    () -> k.task(n[0], n[1], n[2], n[3], n[4]));
        }
        CHECK.due("task behind refused ones", k.task(1, 0, 0, 1, 1), 0);
    }

    private static void atMostEight() {
        TaskKernel k = new TaskKernel(0);
        for (int t = 0; t < 8; t++) {
            CHECK.due("task number " + t, k.task(1 + t, 0, 0, 1, 1), t);
        }
        CHECK.dueState(k, "a ninth task", () -> k.task(1, 0, 0, 1, 1));
        CHECK.dueArgument(k, "a ninth task with a wrong number", () -> k.task(0, 0, 0, 1, 1));
        CHECK.due("look(1)", k.look(1), 8);
    }

    private static void notBehindTheStart() {
        TaskKernel k = new TaskKernel(0);
        k.task(1, 0, 0, 1, 1);
        k.start();
        CHECK.dueState(k, "task behind the START", () -> k.task(1, 0, 0, 1, 1));
        CHECK.dueArgument(k, "a wrong task behind the START", () -> k.task(32, 0, 0, 1, 1));
    }

    /** Priority, period, offset, deadline and budget each show in a run. */
    private static void eachNumberCounts() {
        TaskKernel k = new TaskKernel(0);
        k.task(7, 5, 3, 4, 1);
        Check.body(k, 0, "W6");
        k.start();
        k.tick(8);
        CHECK.due("seen(0, 2)", k.seen(0, 2), 7);
        k.tick(1);
        CHECK.due("the events", Check.events(k), "release 0@3, OVER 0@4, MISS 0@7, LOST 0@8, DONE 0@8");
    }
}
