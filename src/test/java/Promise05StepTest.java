/** Promise 5: step. */
public final class Promise05StepTest {
    private static final Check CHECK = new Check("Promise05StepTest");

    public static void main(String[] args) {
        countsAndEdges();
        wrongNumbers();
        aMutexThatIsMadeLater();
        atMostTen();
        notBehindTheStart();
        inTheirOrder();
        CHECK.end();
    }

    private static void countsAndEdges() {
        TaskKernel k = new TaskKernel(0);
        k.task(1, 0, 0, 9, 9);
        k.task(1, 0, 0, 9, 9);
        k.mutex(0, 0);
        k.mutex(0, 0);
        CHECK.due("step(0, 0, 1)", k.step(0, 0, 1), 1);
        CHECK.due("step(0, 0, 20)", k.step(0, 0, 20), 2);
        CHECK.due("step(0, 1, 1)", k.step(0, 1, 1), 3);
        CHECK.due("step(1, 2, 0)", k.step(1, 2, 0), 1);
        CHECK.due("response(0)", k.response(0), 21);
    }

    private static void wrongNumbers() {
        int[][] wrong = {{-1, 0, 1}, {1, 0, 1}, {8, 0, 1}, {Integer.MAX_VALUE, 0, 1}, {Integer.MIN_VALUE, 0, 1},
            {0, -1, 1}, {0, 3, 0}, {0, Integer.MAX_VALUE, 0}, {0, 0, 0}, {0, 0, 21}, {0, 0, -1},
            {0, 0, Integer.MIN_VALUE}, {0, 1, 1}, {0, 2, 1}, {0, 1, -1}, {0, 2, -1}, {0, 1, 4},
            {0, 2, Integer.MAX_VALUE}};
        TaskKernel k = new TaskKernel(0);
        k.task(1, 0, 0, 9, 9);
        k.mutex(0, 0);
        for (int[] n : wrong) {
            CHECK.dueArgument(k, "step(" + n[0] + ", " + n[1] + ", " + n[2] + ")", () -> k.step(n[0], n[1], n[2]));
        }
        CHECK.due("step behind refused ones", k.step(0, 1, 0), 1);
    }

    private static void aMutexThatIsMadeLater() {
        TaskKernel k = new TaskKernel(0);
        k.task(1, 0, 0, 9, 9);
        CHECK.dueArgument(k, "step(0, 1, 0) without a mutex", () -> k.step(0, 1, 0));
        CHECK.dueArgument(k, "step(0, 2, 0) without a mutex", () -> k.step(0, 2, 0));
        k.mutex(0, 0);
        CHECK.due("step(0, 1, 0) with a mutex", k.step(0, 1, 0), 1);
        CHECK.due("step(0, 2, 0) with a mutex", k.step(0, 2, 0), 2);
        for (int m = 1; m < 4; m++) {
            k.mutex(0, 0);
        }
        CHECK.due("step(0, 1, 3) with four mutexes", k.step(0, 1, 3), 3);
        CHECK.dueArgument(k, "step(0, 1, 4) with four mutexes", () -> k.step(0, 1, 4));
    }

    private static void atMostTen() {
        TaskKernel k = new TaskKernel(0);
        k.task(1, 0, 0, 9, 9);
        k.task(1, 0, 0, 9, 9);
        for (int i = 1; i <= 10; i++) {
            CHECK.due("step number " + i, k.step(0, 0, 20), i);
        }
        CHECK.dueState(k, "an eleventh step", () -> k.step(0, 0, 1));
        CHECK.dueArgument(k, "an eleventh step with wrong units", () -> k.step(0, 0, 21));
        CHECK.due("the first step of another task", k.step(1, 0, 1), 1);
        CHECK.due("response(0)", k.response(0), 200);
    }

    private static void notBehindTheStart() {
        TaskKernel k = new TaskKernel(0);
        k.task(1, 0, 0, 9, 9);
        k.start();
        CHECK.dueState(k, "step behind the START", () -> k.step(0, 0, 1));
        CHECK.dueArgument(k, "a wrong step behind the START", () -> k.step(1, 0, 1));
        k.release(0);
        k.tick(1);
        CHECK.due("the events of a task without steps", Check.events(k), "release 0@0, DONE 0@0");
    }

    private static void inTheirOrder() {
        TaskKernel k = new TaskKernel(0);
        k.mutex(0, 0);
        k.task(1, 0, 0, 9, 9);
        Check.body(k, 0, "W2 L0 W1 U0 W3");
        k.start();
        k.release(0);
        int[] steps = {0, 2, 4, 4, 4, -1};
        int[] owners = {-1, 0, -1, -1, -1, -1};
        for (int i = 0; i < steps.length; i++) {
            k.tick(1);
            CHECK.due("seen(0, 1) behind tick " + (i + 1), k.seen(0, 1), steps[i]);
            CHECK.due("held(0, 0) behind tick " + (i + 1), k.held(0, 0), owners[i]);
        }
    }
}
