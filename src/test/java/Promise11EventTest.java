/** Promise 11: event. */
public final class Promise11EventTest {
    private static final Check CHECK = new Check("Promise11EventTest");

    public static void main(String[] args) {
        noSuch();
        everyKind();
        theLatestForty();
        CHECK.end();
    }

    private static void noSuch() {
        TaskKernel k = new TaskKernel(0);
        k.task(1, 0, 0, 9, 9);
        k.task(1, 0, 0, 9, 9);
        k.start();
        k.tick(3);
        CHECK.due("event(0, 0) without events", k.event(0, 0), -1);
        k.release(1);
        CHECK.due("event(0, 0)", k.event(0, 0), 0);
        CHECK.due("event(0, 1)", k.event(0, 1), 3);
        CHECK.due("event(0, 2)", k.event(0, 2), 1);
        int[] none = {-1, 1, 39, 40, Integer.MIN_VALUE, Integer.MAX_VALUE};
        for (int n : none) {
            CHECK.due("event(" + n + ", 0)", k.event(n, 0), -1);
            CHECK.due("event(" + n + ", 1)", k.event(n, 1), -1);
        }
        int[] wrong = {-1, 3, Integer.MIN_VALUE, Integer.MAX_VALUE};
        for (int w : wrong) {
            CHECK.due("event(0, " + w + ")", k.event(0, w), -1);
        }
    }

    /** Their numbers: 0 release, 1 LOST, 2 DONE, 3 FAILED, 4 MISS, 5 BLOCKED, 6 GIVEN, 7 OVER. */
    private static void everyKind() {
        TaskKernel k = new TaskKernel(0);
        k.mutex(0, 0);
        k.task(1, 0, 0, 200, 1);
        k.task(2, 0, 0, 2, 200);
        Check.body(k, 0, "L0 W5");
        Check.body(k, 1, "L0 U0 U0");
        k.start();
        k.release(0);
        k.tick(2);
        k.release(1);
        k.release(1);
        k.tick(4);
        int[][] due = {{0, 0, 0}, {7, 1, 0}, {0, 2, 1}, {1, 2, 1}, {5, 2, 1}, {4, 4, 1}, {2, 4, 0}, {6, 4, 1},
            {3, 5, 1}};
        CHECK.due("look(5)", k.look(5), due.length);
        for (int i = 0; i < due.length; i++) {
            int back = due.length - 1 - i;
            for (int w = 0; w < 3; w++) {
                CHECK.due("event(" + back + ", " + w + ")", k.event(back, w), due[i][w]);
            }
        }
    }

    /** A release and a DONE at each even time. */
    private static void theLatestForty() {
        TaskKernel k = new TaskKernel(0);
        k.task(1, 2, 0, 9, 9);
        k.start();
        k.tick(39);
        CHECK.due("look(5)", k.look(5), 40);
        CHECK.due("event(39, 1): the first one is kept", k.event(39, 1), 0);
        CHECK.due("event(40, 1)", k.event(40, 1), -1);
        k.tick(11);
        CHECK.due("look(5)", k.look(5), 50);
        for (int back = 0; back < 40; back++) {
            CHECK.due("event(" + back + ", 0)", k.event(back, 0), back % 2 == 0 ? 2 : 0);
            CHECK.due("event(" + back + ", 1)", k.event(back, 1), 48 - back / 2 * 2);
        }
        CHECK.due("event(40, 0): no longer kept", k.event(40, 0), -1);
        CHECK.due("event(49, 0): no longer kept", k.event(49, 0), -1);
    }
}
