/** Promise 1: a new object has nothing in it, and its policy is DEADLINES for every number but 0. */
public final class Promise01NewObjectTest {
    private static final Check CHECK = new Check("Promise01NewObjectTest");

    public static void main(String[] args) {
        nothingIsInIt();
        int[] numbers = {1, 2, -1, Integer.MIN_VALUE, Integer.MAX_VALUE};
        CHECK.due("who works first with deadlines = 0", workers(0), "1110000");
        for (int number : numbers) {
            CHECK.due("who works first with deadlines = " + number, workers(number), "0000111");
        }
        CHECK.due("NONE", TaskKernel.NONE, -1);
        objectsAreApart();
        CHECK.end();
    }

    private static void nothingIsInIt() {
        for (int deadlines = 0; deadlines < 2; deadlines++) {
            TaskKernel k = new TaskKernel(deadlines);
            int[] due = {-1, 0, 0, 0, 0, -1, 0, -1};
            for (int which = -1; which <= 6; which++) {
                CHECK.due("look(" + which + ") of a new object", k.look(which), due[which + 1]);
            }
            CHECK.due("seen(0, 0) of a new object", k.seen(0, 0), TaskKernel.NONE);
            CHECK.due("held(0, 0) of a new object", k.held(0, 0), TaskKernel.NONE);
            CHECK.due("event(0, 0) of a new object", k.event(0, 0), TaskKernel.NONE);
            CHECK.due("load() of a new object", k.load(), 0.0);
        }
    }

    /** Task 0 has the lesser priority and the nearer deadline. */
    private static String workers(int deadlines) {
        TaskKernel k = new TaskKernel(deadlines);
        k.task(1, 0, 0, 10, 200);
        k.task(2, 0, 0, 20, 200);
        Check.body(k, 0, "W4");
        Check.body(k, 1, "W3");
        k.start();
        k.release(0);
        k.release(1);
        return Check.workers(k, 7);
    }

    private static void objectsAreApart() {
        TaskKernel one = new TaskKernel(0);
        TaskKernel other = new TaskKernel(0);
        one.task(1, 0, 0, 1, 1);
        one.mutex(0, 0);
        one.start();
        one.tick(3);
        CHECK.due("look(1) of another object", other.look(1), 0);
        CHECK.due("look(2) of another object", other.look(2), 0);
        CHECK.due("look(3) of another object", other.look(3), 0);
        CHECK.due("look(0) of another object", other.look(0), 0);
    }
}
