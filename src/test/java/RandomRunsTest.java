import java.util.Random;
import java.util.function.Supplier;

/**
 * All promises: runs of calls by chance, the same ones in each test run, on a kernel and on the plain model; behind
 * each call all that can be seen of both has to be alike, and a call that is refused has to change nothing.
 */
public final class RandomRunsTest {
    private static final Check CHECK = new Check("RandomRunsTest");
    private static final int RUNS = 600;
    private static final int CALLS = 100;
    private static final int[] STRANGE = {-1, 8, 501, Integer.MIN_VALUE, Integer.MAX_VALUE};

    private final int[] kindsMet;
    private final String name;
    private final Random chance;
    private final TaskKernel kernel;
    private final PlainModel model;
    private final int tasks;
    private final int mutexes;

    private RandomRunsTest(int run, int[] kindsMet) {
        this.kindsMet = kindsMet;
        name = "run " + run + ": ";
        chance = new Random(run);
        int deadlines = chance.nextInt(2);
        kernel = new TaskKernel(deadlines);
        model = new PlainModel(deadlines);
        tasks = 1 + chance.nextInt(8);
        mutexes = chance.nextInt(5);
    }

    public static void main(String[] args) {
        int[] kindsMet = new int[8];
        for (int run = 0; run < RUNS; run++) {
            new RandomRunsTest(run, kindsMet).go();
        }
        for (int kind = 0; kind < 8; kind++) {
            CHECK.due("events of kind " + kind + " were met", kindsMet[kind] > 0, true);
        }
        CHECK.end();
    }

    private void go() {
        for (int m = 0; m < mutexes; m++) {
            int protocol = chance.nextInt(3);
            int ceiling = chance.nextInt(4) + 3;
            call("mutex", () -> kernel.mutex(protocol, ceiling), () -> model.mutex(protocol, ceiling));
        }
        for (int t = 0; t < tasks; t++) {
            giveTask(t);
        }
        for (int i = 0; i < 3; i++) {
            strangeCall();
        }
        call("start", () -> started(kernel::start), () -> started(model::start));
        for (int i = 0; i < CALLS; i++) {
            runCall();
        }
    }

    private void giveTask(int t) {
        int priority = 1 + chance.nextInt(6);
        int period = chance.nextInt(3) == 0 ? 0 : 2 + chance.nextInt(30);
        int offset = chance.nextInt(10);
        int deadline = 1 + chance.nextInt(chance.nextBoolean() ? 10 : 40);
        int budget = 1 + chance.nextInt(8);
        boolean strict = chance.nextInt(3) == 0;
        call("task", () -> kernel.task(priority, period, offset, deadline, budget),
                () -> model.task(priority, period, offset, deadline, budget));
        call("strict", () -> kernel.strict(t, strict), () -> model.strict(t, strict));
        int steps = chance.nextInt(11);
        for (int i = 0; i < steps; i++) {
            int kind = mutexes == 0 ? 0 : chance.nextInt(10) < 6 ? 0 : chance.nextInt(4) == 0 ? 2 : 1;
            int a = kind == 0 ? 1 + chance.nextInt(3) : chance.nextInt(mutexes);
            call("step", () -> kernel.step(t, kind, a), () -> model.step(t, kind, a));
        }
    }

    private void runCall() {
        int which = chance.nextInt(12);
        int t = chance.nextInt(tasks);
        if (which == 0) {
            strangeCall();
        } else if (which == 1) {
            boolean is = chance.nextBoolean();
            call("strict", () -> kernel.strict(t, is), () -> model.strict(t, is));
        } else if (which < 6) {
            call("release", () -> kernel.release(t), () -> model.release(t));
        } else {
            int n = chance.nextInt(20) == 0 ? chance.nextInt(30) : chance.nextInt(3);
            call("tick", () -> kernel.tick(n), () -> model.tick(n));
        }
    }

    private int strange() {
        return chance.nextBoolean() ? chance.nextInt(4) : STRANGE[chance.nextInt(STRANGE.length)];
    }

    private void strangeCall() {
        int a = strange();
        int b = strange();
        int c = strange();
        switch (chance.nextInt(7)) {
            case 0 -> call("task", () -> kernel.task(a, b, c, 9, 9), () -> model.task(a, b, c, 9, 9));
            case 1 -> call("task", () -> kernel.task(9, 9, 9, a, b), () -> model.task(9, 9, 9, a, b));
            case 2 -> call("mutex", () -> kernel.mutex(a, b), () -> model.mutex(a, b));
            case 3 -> call("step", () -> kernel.step(a, b, c), () -> model.step(a, b, c));
            case 4 -> call("release", () -> kernel.release(a), () -> model.release(a));
            case 5 -> call("tick", () -> kernel.tick(a), () -> model.tick(a));
            default -> call("response", () -> kernel.response(a), () -> model.response(a));
        }
    }

    private static boolean started(Runnable start) {
        start.run();
        return true;
    }

    private void call(String call, Supplier<Object> ofKernel, Supplier<Object> ofModel) {
        String before = Check.whole(kernel);
        int eventsBefore = kernel.look(5);
        Object got = outcome(ofKernel);
        CHECK.due(name + call, got, outcome(ofModel));
        String behind = Check.whole(kernel);
        CHECK.due(name + "all that can be seen behind " + call, behind, Check.whole(model));
        if (got instanceof String || got.equals(false) || got.equals(TaskKernel.NONE)) {
            CHECK.due(name + "what is refused changes nothing: " + call, behind, before);
        }
        for (int k = Math.min(40, kernel.look(5) - eventsBefore) - 1; k >= 0; k--) {
            kindsMet[kernel.event(k, 0)]++;
        }
    }

    /** The answer, or the name of the exception. */
    private static Object outcome(Supplier<Object> call) {
        try {
            return call.get();
        } catch (RuntimeException e) {
            return e.getClass().getSimpleName();
        }
    }
}
