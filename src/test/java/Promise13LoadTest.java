/** Promise 13: load. */
public final class Promise13LoadTest {
    private static final Check CHECK = new Check("Promise13LoadTest");

    public static void main(String[] args) {
        TaskKernel k = new TaskKernel(0);
        CHECK.due("load() without tasks", k.load(), 0.0);
        k.mutex(0, 0);
        k.task(1, 10, 0, 9, 9);
        CHECK.due("load() without steps", k.load(), 0.0);
        k.task(2, 10, 0, 9, 9);
        k.task(3, 10, 0, 9, 9);
        k.task(4, 0, 0, 9, 9);
        Check.body(k, 0, "W1");
        Check.body(k, 1, "L0 W1 U0 W1");
        Check.body(k, 2, "W3");
        Check.body(k, 3, "W20");
        CHECK.due("load(): added in the order of the tasks", k.load(), 0.1 + 0.2 + 0.3);
        CHECK.due("load(): as doubles", k.load(), 0.6000000000000001);
        k.start();
        k.tick(7);
        CHECK.due("load() behind the START", k.load(), 0.6000000000000001);
        TaskKernel full = new TaskKernel(1);
        for (int t = 0; t < 8; t++) {
            full.task(1, 2, 0, 9, 9);
            Check.body(full, t, "W20 W20 W20 W20 W20 W20 W20 W20 W20 W20");
        }
        CHECK.due("load() of the most", full.load(), 800.0);
        CHECK.end();
    }
}
