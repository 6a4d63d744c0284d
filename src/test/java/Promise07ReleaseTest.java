/** Promise 7: release. */
public final class Promise07ReleaseTest {
    private static final Check CHECK = new Check("Promise07ReleaseTest");

    public static void main(String[] args) {
        refused();
        now();
        lost();
        theOffsetDoesNotCount();
        CHECK.end();
    }

    private static void refused() {
        TaskKernel k = new TaskKernel(0);
        k.task(1, 0, 0, 9, 9);
        k.task(1, 4, 2, 9, 9);
        dueRefused(k, 0, "ahead of the START");
        k.start();
        int[] none = {-1, 2, 8, Integer.MAX_VALUE, Integer.MIN_VALUE};
        for (int t : none) {
            dueRefused(k, t, "as there is none such");
        }
        dueRefused(k, 1, "as it has a period");
        k.tick(1);
        dueRefused(k, 1, "as it has a period, behind a tick");
        CHECK.due("release(0)", k.release(0), true);
    }

    private static void dueRefused(TaskKernel k, int t, String why) {
        String before = Check.whole(k);
        CHECK.due("release(" + t + ") " + why, k.release(t), false);
        CHECK.due("all that can be seen behind it", Check.whole(k), before);
    }

    private static void now() {
        TaskKernel k = new TaskKernel(1);
        k.mutex(0, 0);
        k.task(1, 0, 0, 9, 9);
        Check.body(k, 0, "L0 W2");
        k.start();
        k.tick(3);
        CHECK.due("release(0)", k.release(0), true);
        CHECK.due("seen(0, 0): READY at once", k.seen(0, 0), 1);
        CHECK.due("seen(0, 1): at the first step", k.seen(0, 1), 0);
        CHECK.due("seen(0, 2): due at 3 + 9", k.seen(0, 2), 12);
        CHECK.due("held(0, 0): it goes on with the next tick", k.held(0, 0), -1);
        CHECK.due("the events", Check.events(k), "release 0@3");
        k.tick(1);
        CHECK.due("held(0, 0) behind a tick", k.held(0, 0), 0);
    }

    private static void lost() {
        TaskKernel k = new TaskKernel(0);
        k.task(1, 0, 0, 3, 9);
        Check.body(k, 0, "W2");
        k.start();
        k.release(0);
        k.tick(1);
        CHECK.due("release(0) with a job", k.release(0), true);
        CHECK.due("seen(0, 6)", k.seen(0, 6), 1);
        k.tick(1);
        CHECK.due("release(0) behind DONE", k.release(0), true);
        CHECK.due("release(0) at the same time", k.release(0), true);
        k.tick(5);
        CHECK.due("the events", Check.events(k),
                "release 0@0, LOST 0@1, DONE 0@1, release 0@2, LOST 0@2, DONE 0@3");
        CHECK.due("seen(0, 6)", k.seen(0, 6), 2);
        CHECK.due("seen(0, 5): a LOST release moves no due time", k.seen(0, 5), 0);
    }

    private static void theOffsetDoesNotCount() {
        TaskKernel k = new TaskKernel(0);
        k.task(1, 0, 50, 3, 9);
        Check.body(k, 0, "W1");
        k.start();
        CHECK.due("release(0)", k.release(0), true);
        CHECK.due("tick(60): released once", k.tick(60), 1);
    }
}
