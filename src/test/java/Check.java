import java.util.ArrayList;
import java.util.List;

/** What the tests of the project share: comparing answers, giving bodies as texts, and reading a kernel whole. */
final class Check {
    private static final String[] EVENT_NAMES =
            {"release", "LOST", "DONE", "FAILED", "MISS", "BLOCKED", "GIVEN", "OVER"};

    private final String test;
    private int made;
    private int wrong;

    Check(String test) {
        this.test = test;
    }

    void due(String call, Object got, Object want) {
        made++;
        if (!got.equals(want)) {
            wrong++;
            System.out.println(test + ": " + call + " answered " + got + ", due is " + want);
        }
    }

    void dueArgument(TaskKernel kernel, String call, Runnable made) {
        dueThrow(kernel, call, made, "IllegalArgumentException");
    }

    void dueState(TaskKernel kernel, String call, Runnable made) {
        dueThrow(kernel, call, made, "IllegalStateException");
    }

    /** A call that throws also has to change nothing. */
    private void dueThrow(TaskKernel kernel, String call, Runnable made, String want) {
        String before = whole(kernel);
        String got = "nothing thrown";
        try {
            made.run();
        } catch (RuntimeException e) {
            got = e.getClass().getSimpleName();
        }
        due(call, got, want);
        due("all that can be seen behind " + call, whole(kernel), before);
    }

    void end() {
        System.out.println(test + ": " + made + " answers, " + wrong + " of them not as due");
        if (wrong != 0 || made == 0) {
            System.exit(1);
        }
    }

    /** Gives task t the steps of a text like "L0 W5 U0": LOCK 0, WORK for 5, UNLOCK 0. */
    static void body(TaskKernel kernel, int t, String steps) {
        for (String step : steps.split(" ")) {
            kernel.step(t, "WLU".indexOf(step.charAt(0)), Integer.parseInt(step.substring(1)));
        }
    }

    /** A new task without a period that never misses in a short run: only its priority and its steps matter. */
    static int plainTask(TaskKernel kernel, int priority, String steps) {
        int t = kernel.task(priority, 0, 0, 200, 200);
        body(kernel, t, steps);
        return t;
    }

    /** A new task without a period for runs with DEADLINES: only its deadline and its steps matter. */
    static int timedTask(TaskKernel kernel, int deadline, String steps) {
        int t = kernel.task(1, 0, 0, deadline, 200);
        body(kernel, t, steps);
        return t;
    }

    /** Releases these tasks, all at the time as it is now. */
    static void releaseAll(TaskKernel kernel, int... tasks) {
        for (int t : tasks) {
            kernel.release(t);
        }
    }

    /** Releases these tasks with one tick behind each. */
    static void releaseEach(TaskKernel kernel, int... tasks) {
        for (int t : tasks) {
            kernel.release(t);
            kernel.tick(1);
        }
    }

    /** The urgencies of the first n tasks, with blanks between them. */
    static String urgencies(TaskKernel kernel, int n) {
        List<String> row = new ArrayList<>();
        for (int t = 0; t < n; t++) {
            row.add(String.valueOf(kernel.seen(t, 2)));
        }
        return String.join(" ", row);
    }

    /** The latest n events, the oldest of them first, each as "kind task@time". */
    static String latest(TaskKernel kernel, int n) {
        List<String> rows = new ArrayList<>();
        for (int k = n - 1; k >= 0; k--) {
            int kind = kernel.event(k, 0);
            String name = kind >= 0 && kind < EVENT_NAMES.length ? EVENT_NAMES[kind] : "kind " + kind;
            rows.add(name + " " + kernel.event(k, 2) + "@" + kernel.event(k, 1));
        }
        return String.join(", ", rows);
    }

    /** All events there were; for runs of at most 40. */
    static String events(TaskKernel kernel) {
        return latest(kernel, kernel.look(5));
    }

    /** The numbers of the tasks that worked in the next n ticks, '.' where none did. */
    static String workers(TaskKernel kernel, int n) {
        StringBuilder row = new StringBuilder();
        for (int i = 0; i < n; i++) {
            row.append(kernel.tick(1) == 1 ? String.valueOf(kernel.look(4)) : ".");
        }
        return row.toString();
    }

    static String whole(TaskKernel kernel) {
        return whole(new KernelAnswers(kernel));
    }

    /** Every answer that can be had without a change, one behind the other. */
    static String whole(Answers answers) {
        StringBuilder all = new StringBuilder();
        for (int which = -1; which <= 6; which++) {
            all.append(answers.look(which)).append(' ');
        }
        for (int t = -1; t <= 8; t++) {
            all.append("| ");
            for (int w = -1; w <= 10; w++) {
                all.append(answers.seen(t, w)).append(' ');
            }
        }
        for (int m = -1; m <= 4; m++) {
            all.append("| ");
            for (int w = -1; w <= 3; w++) {
                all.append(answers.held(m, w)).append(' ');
            }
        }
        for (int k = -1; k <= 40; k++) {
            all.append("| ");
            for (int w = -1; w <= 3; w++) {
                all.append(answers.event(k, w)).append(' ');
            }
        }
        for (int t = 0; t < answers.look(1); t++) {
            all.append("| ").append(answers.response(t)).append(' ');
        }
        return all.append("| ").append(answers.load()).toString();
    }
}
