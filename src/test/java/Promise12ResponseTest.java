/** Promise 12: response. */
public final class Promise12ResponseTest {
    private static final Check CHECK = new Check("Promise12ResponseTest");

    public static void main(String[] args) {
        noSuch();
        interference();
        blocking();
        sections();
        limit();
        CHECK.end();
    }

    private static int task(TaskKernel k, int priority, int period, String steps) {
        int t = k.task(priority, period, 0, 200, 200);
        Check.body(k, t, steps);
        return t;
    }

    private static void dueResponses(String what, TaskKernel k, int... due) {
        for (int t = 0; t < due.length; t++) {
            CHECK.due("response(" + t + ") " + what, k.response(t), due[t]);
        }
    }

    private static void noSuch() {
        TaskKernel k = new TaskKernel(0);
        k.task(1, 0, 0, 9, 9);
        int[] none = {-1, 1, 8, Integer.MIN_VALUE, Integer.MAX_VALUE};
        for (int t : none) {
            CHECK.dueArgument(k, "response(" + t + ")", () -> k.response(t));
        }
        CHECK.due("response(0) without steps", k.response(0), 0);
    }

    private static void interference() {
        TaskKernel k = new TaskKernel(1);
        task(k, 3, 7, "W1 W2");
        task(k, 2, 12, "W3");
        task(k, 1, 20, "W5");
        dueResponses("of three periods", k, 3, 6, 20);
        k.start();
        k.tick(9);
        dueResponses("behind the START", k, 3, 6, 20);
        TaskKernel alike = new TaskKernel(0);
        task(alike, 2, 10, "W3");
        task(alike, 2, 10, "W4");
        task(alike, 2, 0, "W5");
        task(alike, 1, 4, "W1");
        task(alike, 9, 0, "W9");
        dueResponses("of alike priorities, and of tasks without a period", alike, 7, 7, 19, 8, 9);
    }

    private static void blocking() {
        TaskKernel k = new TaskKernel(0);
        k.mutex(0, 0);
        k.mutex(1, 0);
        task(k, 3, 0, "L0 W4 U0");
        task(k, 3, 0, "L0 W6 U0");
        task(k, 2, 0, "L1 W7 U1");
        task(k, 1, 0, "L0 W5 U0 L1 W8");
        task(k, 4, 0, "W1");
        // Mutex 0 has the CEIL 3 and mutex 1 the CEIL 2; of a lesser priority is only who is really less urgent.
        dueResponses("with BLOCKING", k, 4 + 5, 6 + 5, 7 + 8, 13, 1);
    }

    private static void sections() {
        TaskKernel k = new TaskKernel(0);
        k.mutex(0, 0);
        k.mutex(0, 0);
        task(k, 1, 0, "L0 W3 L1 W4 U0 W5 U1 L0 W2");
        task(k, 5, 0, "L1 W1 U1");
        task(k, 3, 0, "L0 W2 U0");
        task(k, 4, 0, "W1");
        // Of mutex 0: 3 + 4, and 2 up to the end; of mutex 1: 4 + 5.
        dueResponses("with sections in one another", k, 14, 10, 11, 10);
        TaskKernel twice = new TaskKernel(0);
        twice.mutex(0, 0);
        task(twice, 1, 0, "U0 W9 L0 W2 L0 W3 U0 W4 U0 W1");
        task(twice, 2, 0, "L0 W1");
        dueResponses("with a LOCK twice", twice, 19, 6);
        TaskKernel last = new TaskKernel(0);
        last.mutex(0, 0);
        task(last, 1, 0, "L0 W1 U0 L0 W5 W6");
        task(last, 2, 0, "L0 W1");
        dueResponses("with a section up to the end", last, 12, 12);
        TaskKernel low = new TaskKernel(0);
        low.mutex(2, 31);
        task(low, 1, 0, "L0 W9 U0");
        task(low, 5, 0, "W1");
        dueResponses("with a CEIL below the priority, whatever the ceiling", low, 9, 1);
    }

    private static void limit() {
        TaskKernel k = new TaskKernel(0);
        task(k, 1, 0, "W20 W20 W20 W20 W20 W20 W20 W20 W20 W20");
        task(k, 2, 200, "W20 W20 W20 W20");
        task(k, 2, 200, "W20 W20 W20 W20");
        dueResponses("of 1000", k, 1000);
        TaskKernel above = new TaskKernel(0);
        above.mutex(0, 0);
        task(above, 2, 0, "L0 W20 W20 W20 W20 W20 W20 W20 W20 W20");
        task(above, 1, 0, "L0 W20 W1");
        task(above, 2, 200, "W20 W20 W20 W20");
        task(above, 2, 200, "W20 W20 W20 W20");
        dueResponses("of 1001", above, TaskKernel.NONE);
        stays("of 858, 6 times the period", "W6", 858);
        stays("of 1001, where it would stay", "W7", TaskKernel.NONE);
        TaskKernel full = new TaskKernel(0);
        task(full, 2, 2, "W2");
        task(full, 1, 0, "W1");
        dueResponses("that never stays", full, 2, TaskKernel.NONE);
    }

    /** Beside a task that leaves one unit of each 143 free. */
    private static void stays(String what, String steps, int due) {
        TaskKernel k = new TaskKernel(0);
        task(k, 1, 0, steps);
        task(k, 2, 143, "W20 W20 W20 W20 W20 W20 W20 W2");
        dueResponses(what, k, due);
    }
}
