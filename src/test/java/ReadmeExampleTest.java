/** The example of README.md, call by call, with the answers that stand there. */
public final class ReadmeExampleTest {
    private static final Check CHECK = new Check("ReadmeExampleTest");

    public static void main(String[] args) {
        TaskKernel k = new TaskKernel(0);
        int m = k.mutex(1, 0);
        int slow = k.task(1, 0, 0, 40, 9);
        int fast = k.task(9, 20, 3, 10, 9);
        CHECK.due("k.step(slow, 1, m)", k.step(slow, 1, m), 1);
        CHECK.due("k.step(slow, 0, 5)", k.step(slow, 0, 5), 2);
        CHECK.due("k.step(slow, 2, m)", k.step(slow, 2, m), 3);
        k.step(fast, 1, m);
        k.step(fast, 0, 2);
        k.step(fast, 2, m);
        CHECK.due("k.strict(fast, true)", k.strict(fast, true), true);
        CHECK.due("k.response(fast)", k.response(fast), 7);
        CHECK.due("k.load()", k.load(), 0.1);
        k.start();
        CHECK.due("k.release(slow)", k.release(slow), true);
        CHECK.due("k.tick(4)", k.tick(4), 4);
        CHECK.due("k.seen(fast, 0)", k.seen(fast, 0), 2);
        CHECK.due("k.held(m, 0)", k.held(m, 0), slow);
        CHECK.due("k.seen(slow, 2)", k.seen(slow, 2), 9);
        CHECK.due("k.event(0, 0)", k.event(0, 0), 5);
        CHECK.due("k.tick(26)", k.tick(26), 5);
        CHECK.due("k.seen(fast, 3)", k.seen(fast, 3), 2);
        CHECK.due("k.seen(fast, 8)", k.seen(fast, 8), 4);
        CHECK.due("k.held(m, 0)", k.held(m, 0), TaskKernel.NONE);
        CHECK.due("k.look(0)", k.look(0), 30);
        CHECK.end();
    }
}
