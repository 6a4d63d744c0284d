/** Promise 3: strict. */
public final class Promise03StrictTest {
    private static final Check CHECK = new Check("Promise03StrictTest");

    public static void main(String[] args) {
        answers();
        aStrictJobFails();
        notStrictAtFirstAndTakenBack();
        behindTheStart();
        CHECK.end();
    }

    private static TaskKernel two() {
        TaskKernel k = new TaskKernel(0);
        k.task(1, 0, 0, 2, 9);
        k.task(2, 0, 0, 2, 9);
        Check.body(k, 0, "W4");
        Check.body(k, 1, "W4");
        return k;
    }

    private static void answers() {
        TaskKernel k = two();
        int[] none = {-1, 2, 7, 8, Integer.MIN_VALUE, Integer.MAX_VALUE};
        for (int t : none) {
            String before = Check.whole(k);
            CHECK.due("strict(" + t + ", true)", k.strict(t, true), false);
            CHECK.due("all that can be seen behind it", Check.whole(k), before);
        }
        CHECK.due("strict(0, true)", k.strict(0, true), true);
        CHECK.due("strict(0, true) again", k.strict(0, true), true);
        CHECK.due("strict(1, false)", k.strict(1, false), true);
        CHECK.due("strict(0, true) of an object without tasks", new TaskKernel(0).strict(0, true), false);
    }

    private static void aStrictJobFails() {
        TaskKernel k = two();
        k.strict(1, true);
        k.start();
        k.release(0);
        k.release(1);
        k.tick(9);
        CHECK.due("the events", Check.events(k),
                "release 0@0, release 1@0, MISS 0@2, MISS 1@2, FAILED 1@2, DONE 0@5");
        CHECK.due("seen(1, 4)", k.seen(1, 4), 1);
        CHECK.due("seen(0, 4)", k.seen(0, 4), 0);
    }

    private static void notStrictAtFirstAndTakenBack() {
        TaskKernel k = two();
        k.strict(1, true);
        k.strict(1, false);
        k.start();
        k.release(1);
        k.tick(9);
        CHECK.due("the events", Check.events(k), "release 1@0, MISS 1@2, DONE 1@3");
    }

    /** Promise 3 names no refusal behind the START, so that it counts from then on. */
    private static void behindTheStart() {
        TaskKernel k = two();
        k.start();
        k.release(1);
        k.tick(1);
        CHECK.due("strict(1, true) behind the START", k.strict(1, true), true);
        k.tick(3);
        CHECK.due("the events", Check.events(k), "release 1@0, MISS 1@2, FAILED 1@2");
    }
}
