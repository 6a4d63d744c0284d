/**
 * A call that answers false or NONE, or throws, changes nothing: of two kernels with the same calls one also gets all
 * that is refused, again and again, and both are alike at the end. The other one is not even looked at before that.
 */
public final class RefusedCallsTest {
    private static final Check CHECK = new Check("RefusedCallsTest");
    private static final int[] STRANGE = {-1, 8, 41, Integer.MIN_VALUE, Integer.MAX_VALUE};

    private final TaskKernel kernel;
    private final boolean isRefusing;

    private RefusedCallsTest(int deadlines, boolean isRefusing) {
        kernel = new TaskKernel(deadlines);
        this.isRefusing = isRefusing;
    }

    public static void main(String[] args) {
        for (int deadlines = 0; deadlines < 2; deadlines++) {
            CHECK.due("all that can be seen of a kernel with refused calls, deadlines = " + deadlines,
                    new RefusedCallsTest(deadlines, true).play(), new RefusedCallsTest(deadlines, false).play());
        }
        CHECK.end();
    }

    private String play() {
        refusedBeforeTheStart();
        refusedWithoutTasks();
        giveAll();
        refusedBeforeTheStart();
        refusedWhereAllIsFull();
        kernel.start();
        StringBuilder worked = new StringBuilder();
        for (int i = 0; i < 60; i++) {
            refusedBehindTheStart();
            if (i % 3 == 0) {
                kernel.release(i % 8);
            }
            worked.append(kernel.tick(1));
        }
        return worked + " " + Check.whole(kernel);
    }

    /** Eight tasks with ten steps each, and four mutexes; the tasks 0, 3 and 6 have no period. */
    private void giveAll() {
        for (int m = 0; m < 4; m++) {
            kernel.mutex(m % 3, 6);
        }
        for (int t = 0; t < 8; t++) {
            kernel.task(1 + t % 4, t % 3 == 0 ? 0 : 11 + t, t, 6 + 3 * t, 3);
            int m = t % 4;
            Check.body(kernel, t, "W1 L" + m + " W1 U" + m + " L3 W1 W1 W1 W1 U3");
            kernel.strict(t, t % 5 == 2);
        }
    }

    private void refusedWithoutTasks() {
        if (isRefusing) {
            dueThrow("start() without a task", kernel::start);
        }
    }

    private void refusedBeforeTheStart() {
        if (!isRefusing) {
            return;
        }
        CHECK.due("release(0) ahead of the START", kernel.release(0), false);
        dueThrow("tick(1) ahead of the START", () -> kernel.tick(1));
        refusedAtAnyTime();
    }

    private void refusedWhereAllIsFull() {
        if (!isRefusing) {
            return;
        }
        dueThrow("a ninth task", () -> kernel.task(1, 0, 0, 1, 1));
        dueThrow("a fifth mutex", () -> kernel.mutex(0, 0));
        for (int t = 0; t < 8; t++) {
            int number = t;
            dueThrow("an eleventh step", () -> kernel.step(number, 0, 1));
        }
    }

    private void refusedBehindTheStart() {
        if (!isRefusing) {
            return;
        }
        dueThrow("start() again", kernel::start);
        dueThrow("task behind the START", () -> kernel.task(1, 0, 0, 1, 1));
        dueThrow("mutex behind the START", () -> kernel.mutex(0, 0));
        dueThrow("step behind the START", () -> kernel.step(0, 0, 1));
        for (int t = 0; t < 8; t++) {
            if (t % 3 != 0) {
                CHECK.due("release(" + t + ") of a task with a period", kernel.release(t), false);
            }
        }
        refusedAtAnyTime();
    }

    private void refusedAtAnyTime() {
        for (int n : STRANGE) {
            CHECK.due("strict(" + n + ", true)", kernel.strict(n, true), false);
            CHECK.due("release(" + n + ")", kernel.release(n), false);
            CHECK.due("seen(" + n + ", 2)", kernel.seen(n, 2), -1);
            CHECK.due("seen(0, " + n + ")", kernel.seen(0, n == 8 ? 10 : n), -1);
            CHECK.due("held(" + n + ", 1)", kernel.held(n, 1), -1);
            CHECK.due("held(0, " + n + ")", kernel.held(0, n), -1);
            CHECK.due("event(0, " + n + ")", kernel.event(0, n), -1);
            CHECK.due("event(" + n + ", 0)", kernel.event(n == 8 ? 40 : n, 0), -1);
            CHECK.due("look(" + n + ")", kernel.look(n), -1);
            dueThrow("response(" + n + ")", () -> kernel.response(n));
            dueThrow("step(" + n + ", 0, 1)", () -> kernel.step(n, 0, 1));
            dueThrow("step(0, " + n + ", 1)", () -> kernel.step(0, n, 1));
            dueThrow("task(1, 0, 0, 1, -1)", () -> kernel.task(1, 0, 0, 1, -1));
            dueThrow("mutex(" + n + ", 1)", () -> kernel.mutex(n, 1));
            dueThrow("tick(" + n + ")", () -> kernel.tick(n == 8 || n == 41 ? 501 : n));
        }
    }

    private static void dueThrow(String call, Runnable made) {
        boolean thrown = false;
        try {
            made.run();
        } catch (IllegalArgumentException | IllegalStateException e) {
            thrown = true;
        }
        CHECK.due(call + " throws", thrown, true);
    }
}
