/** Promise 14: look. */
public final class Promise14LookTest {
    private static final Check CHECK = new Check("Promise14LookTest");

    public static void main(String[] args) {
        TaskKernel k = new TaskKernel(0);
        dueLooks("of a new object", k, 0, 0, 0, 0, -1, 0);
        Check.plainTask(k, 1, "W1");
        Check.plainTask(k, 1, "W1");
        k.mutex(0, 0);
        dueLooks("ahead of the START", k, 0, 2, 1, 0, -1, 0);
        k.start();
        dueLooks("behind the START", k, 0, 2, 1, 1, -1, 0);
        k.tick(4);
        dueLooks("behind idle ticks", k, 4, 2, 1, 1, -1, 0);
        k.release(1);
        dueLooks("behind a release", k, 4, 2, 1, 1, -1, 1);
        k.tick(1);
        dueLooks("behind a tick", k, 5, 2, 1, 1, 1, 2);
        k.tick(7);
        dueLooks("behind more idle ticks", k, 12, 2, 1, 1, 1, 2);
        k.release(0);
        k.release(0);
        k.tick(1);
        dueLooks("behind a LOST release", k, 13, 2, 1, 1, 0, 5);
        CHECK.end();
    }

    private static void dueLooks(String what, TaskKernel k, int... due) {
        for (int which = 0; which < due.length; which++) {
            CHECK.due("look(" + which + ") " + what, k.look(which), due[which]);
        }
        int[] wrong = {-1, 6, Integer.MIN_VALUE, Integer.MAX_VALUE};
        for (int which : wrong) {
            CHECK.due("look(" + which + ") " + what, k.look(which), -1);
        }
    }
}
