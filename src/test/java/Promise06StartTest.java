/** Promise 6: start. */
public final class Promise06StartTest {
    private static final Check CHECK = new Check("Promise06StartTest");

    public static void main(String[] args) {
        TaskKernel k = new TaskKernel(0);
        CHECK.dueState(k, "start() without a task", k::start);
        k.mutex(0, 0);
        CHECK.dueState(k, "start() with a mutex and no task", k::start);
        k.task(1, 2, 0, 9, 9);
        CHECK.due("look(3) ahead of it", k.look(3), 0);
        k.start();
        CHECK.due("look(3) behind it", k.look(3), 1);
        CHECK.due("look(0) behind it", k.look(0), 0);
        CHECK.due("look(5) behind it: nothing is released yet", k.look(5), 0);
        CHECK.dueState(k, "start() again", k::start);
        k.tick(5);
        CHECK.dueState(k, "start() behind ticks", k::start);
        CHECK.due("look(0) behind ticks", k.look(0), 5);
        CHECK.end();
    }
}
