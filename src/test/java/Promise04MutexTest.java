/** Promise 4: mutex. */
public final class Promise04MutexTest {
    private static final Check CHECK = new Check("Promise04MutexTest");

    public static void main(String[] args) {
        numbersAndEdges();
        wrongNumbers();
        atMostFour();
        notBehindTheStart();
        CHECK.end();
    }

    private static void numbersAndEdges() {
        TaskKernel k = new TaskKernel(0);
        CHECK.due("mutex(0, -7): ceiling counts for a CEILING alone", k.mutex(0, -7), 0);
        CHECK.due("mutex(1, 99): ceiling counts for a CEILING alone", k.mutex(1, 99), 1);
        CHECK.due("mutex(2, 1)", k.mutex(2, 1), 2);
        CHECK.due("mutex(2, 31)", k.mutex(2, 31), 3);
        CHECK.due("look(2)", k.look(2), 4);
        CHECK.due("held(3, 0)", k.held(3, 0), -1);
        CHECK.due("held(3, 1)", k.held(3, 1), 0);
        CHECK.due("held(3, 2)", k.held(3, 2), 0);
    }

    private static void wrongNumbers() {
        int[][] wrong = {{-1, 1}, {3, 1}, {Integer.MAX_VALUE, 1}, {Integer.MIN_VALUE, 1},
            {2, 0}, {2, 32}, {2, -1}, {2, Integer.MAX_VALUE}};
        TaskKernel k = new TaskKernel(1);
        for (int[] n : wrong) {
            CHECK.dueArgument(k, "mutex(" + n[0] + ", " + n[1] + ")", () -> k.mutex(n[0], n[1]));
        }
        CHECK.due("mutex behind refused ones", k.mutex(0, 0), 0);
    }

    private static void atMostFour() {
        TaskKernel k = new TaskKernel(0);
        for (int m = 0; m < 4; m++) {
            CHECK.due("mutex number " + m, k.mutex(m % 3, 5), m);
        }
        CHECK.dueState(k, "a fifth mutex", () -> k.mutex(0, 0));
        CHECK.dueArgument(k, "a fifth mutex with a wrong number", () -> k.mutex(3, 1));
        CHECK.due("look(2)", k.look(2), 4);
    }

    private static void notBehindTheStart() {
        TaskKernel k = new TaskKernel(0);
        k.task(1, 0, 0, 1, 1);
        k.start();
        CHECK.dueState(k, "mutex behind the START", () -> k.mutex(0, 0));
        CHECK.dueArgument(k, "a wrong mutex behind the START", () -> k.mutex(2, 0));
    }
}
