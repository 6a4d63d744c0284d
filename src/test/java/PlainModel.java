import java.util.ArrayList;
import java.util.LinkedHashSet;
import java.util.List;
import java.util.Set;

/**
 * The document once more, with the Java library and without care for room or speed: lists hold who is READY and who
 * waits in the order in which they came, and an urgency is gathered anew by walking over all who lend it.
 */
final class PlainModel implements Answers {
    private static final int NONE = -1;

    private static final class Task {
        int number;
        int priority;
        int period;
        int offset;
        int deadline;
        int budget;
        boolean strict;
        final List<int[]> body = new ArrayList<>();
        boolean hasJob;
        int step;
        int unitsOfStep;
        int unitsOfJob;
        int released;
        Mutex waitsFor;
        final int[] counts = new int[10];

        int due() {
            return released + deadline;
        }

        int cost() {
            return body.stream().filter(s -> s[0] == 0).mapToInt(s -> s[1]).sum();
        }
    }

    private static final class Mutex {
        int number;
        int protocol;
        int ceiling;
        Task owner;
        final List<Task> waiting = new ArrayList<>();
    }

    private final boolean deadlines;
    private final List<Task> tasks = new ArrayList<>();
    private final List<Mutex> mutexes = new ArrayList<>();
    private final List<Task> ready = new ArrayList<>();
    private final List<int[]> events = new ArrayList<>();
    private boolean started;
    private int time;
    private Task last;

    PlainModel(int deadlines) {
        this.deadlines = deadlines != 0;
    }

    int task(int priority, int period, int offset, int deadline, int budget) {
        argument(priority >= 1 && priority <= 31);
        argument(period == 0 || period >= 2 && period <= 200);
        argument(offset >= 0 && offset <= 50);
        argument(deadline >= 1 && deadline <= 200);
        argument(budget >= 1 && budget <= 200);
        state(!started && tasks.size() < 8);
        Task task = new Task();
        task.number = tasks.size();
        task.priority = priority;
        task.period = period;
        task.offset = offset;
        task.deadline = deadline;
        task.budget = budget;
        tasks.add(task);
        return task.number;
    }

    boolean strict(int t, boolean is) {
        if (!has(tasks, t)) {
            return false;
        }
        tasks.get(t).strict = is;
        return true;
    }

    int mutex(int protocol, int ceiling) {
        argument(protocol == 0 || protocol == 1 || protocol == 2 && ceiling >= 1 && ceiling <= 31);
        state(!started && mutexes.size() < 4);
        Mutex mutex = new Mutex();
        mutex.number = mutexes.size();
        mutex.protocol = protocol;
        mutex.ceiling = ceiling;
        mutexes.add(mutex);
        return mutex.number;
    }

    int step(int t, int kind, int a) {
        argument(has(tasks, t));
        argument(kind == 0 && a >= 1 && a <= 20 || (kind == 1 || kind == 2) && has(mutexes, a));
        state(!started && tasks.get(t).body.size() < 10);
        tasks.get(t).body.add(new int[] {kind, a});
        return tasks.get(t).body.size();
    }

    void start() {
        state(!started && !tasks.isEmpty());
        started = true;
    }

    boolean release(int t) {
        if (!has(tasks, t) || tasks.get(t).period != 0 || !started) {
            return false;
        }
        released(tasks.get(t));
        return true;
    }

    int tick(int n) {
        argument(n >= 0 && n <= 500);
        state(started);
        int worked = 0;
        for (int i = 0; i < n; i++) {
            worked += oneTick() ? 1 : 0;
            time++;
        }
        return worked;
    }

    private boolean oneTick() {
        for (Task task : tasks) {
            if (task.hasJob && task.due() == time) {
                note(4, task);
                task.counts[5]++;
                if (task.strict) {
                    failed(task);
                }
            }
        }
        for (Task task : tasks) {
            if (task.period != 0 && time >= task.offset && (time - task.offset) % task.period == 0) {
                released(task);
            }
        }
        while (!ready.isEmpty() && !atWork(first())) {
            goOn(first(), time);
        }
        if (ready.isEmpty()) {
            return false;
        }
        Task task = first();
        last = task;
        task.counts[7]++;
        task.unitsOfJob++;
        task.unitsOfStep++;
        if (task.unitsOfJob == task.budget + 1) {
            note(7, task);
        }
        if (task.unitsOfStep == task.body.get(task.step)[1]) {
            task.step++;
            task.unitsOfStep = 0;
            goOn(task, time + 1);
        }
        return true;
    }

    private void released(Task task) {
        if (task.hasJob) {
            task.counts[6]++;
            note(1, task);
            return;
        }
        task.hasJob = true;
        task.step = 0;
        task.unitsOfStep = 0;
        task.unitsOfJob = 0;
        task.released = time;
        ready.add(task);
        note(0, task);
    }

    private boolean atWork(Task task) {
        return task.step < task.body.size() && task.body.get(task.step)[0] == 0;
    }

    private Task first() {
        Task best = null;
        for (Task task : ready) {
            if (best == null || ahead(task, best) || !ahead(best, task) && task == last) {
                best = task;
            }
        }
        return best;
    }

    private boolean ahead(Task one, Task other) {
        return deadlines ? urgency(one) < urgency(other) : urgency(one) > urgency(other);
    }

    private int urgency(Task task) {
        Set<Task> lenders = new LinkedHashSet<>();
        gather(task, lenders);
        int best = deadlines ? Integer.MAX_VALUE : 0;
        for (Task lender : lenders) {
            best = deadlines ? Math.min(best, lender.due()) : Math.max(best, lender.priority);
            for (Mutex mutex : mutexes) {
                if (!deadlines && mutex.owner == lender && mutex.protocol == 2) {
                    best = Math.max(best, mutex.ceiling);
                }
            }
        }
        return best;
    }

    private void gather(Task task, Set<Task> lenders) {
        if (!lenders.add(task)) {
            return;
        }
        for (Mutex mutex : mutexes) {
            if (mutex.owner == task && mutex.protocol == 1) {
                for (Task waiting : mutex.waiting) {
                    gather(waiting, lenders);
                }
            }
        }
    }

    private void goOn(Task task, int now) {
        while (task.step < task.body.size()) {
            int[] step = task.body.get(task.step);
            if (step[0] == 0) {
                return;
            }
            Mutex mutex = mutexes.get(step[1]);
            boolean owns = mutex.owner == task;
            boolean tooHigh = !deadlines && mutex.protocol == 2 && task.priority > mutex.ceiling;
            if (step[0] == 1 && (owns || tooHigh) || step[0] == 2 && !owns) {
                failed(task);
                return;
            }
            if (step[0] == 2) {
                given(mutex);
            } else if (mutex.owner != null) {
                ready.remove(task);
                mutex.waiting.add(task);
                task.waitsFor = mutex;
                note(5, task);
                return;
            } else {
                mutex.owner = task;
            }
            task.step++;
        }
        note(2, task);
        task.counts[3]++;
        task.counts[8] = Math.max(task.counts[8], now - task.released);
        ended(task);
    }

    private void failed(Task task) {
        note(3, task);
        task.counts[4]++;
        ended(task);
    }

    private void ended(Task task) {
        ready.remove(task);
        if (task.waitsFor != null) {
            task.waitsFor.waiting.remove(task);
            task.waitsFor = null;
        }
        task.hasJob = false;
        for (Mutex mutex : mutexes) {
            if (mutex.owner == task) {
                given(mutex);
            }
        }
    }

    private void given(Mutex mutex) {
        Task heir = null;
        for (Task task : mutex.waiting) {
            if (heir == null || ahead(task, heir)) {
                heir = task;
            }
        }
        mutex.owner = heir;
        if (heir != null) {
            mutex.waiting.remove(heir);
            heir.waitsFor = null;
            heir.step++;
            ready.add(heir);
            note(6, heir);
        }
    }

    private void note(int kind, Task task) {
        events.add(0, new int[] {kind, time, task.number});
    }

    @Override
    public int seen(int t, int w) {
        if (!has(tasks, t) || w < 0 || w > 9) {
            return NONE;
        }
        Task task = tasks.get(t);
        if (w == 0) {
            return !task.hasJob ? 0 : ready.contains(task) ? 1 : 2;
        }
        if (w == 1) {
            return task.hasJob ? task.step : NONE;
        }
        if (w == 2) {
            return task.hasJob ? urgency(task) : 0;
        }
        if (w == 9) {
            return task.waitsFor == null ? NONE : task.waitsFor.number;
        }
        return task.counts[w];
    }

    @Override
    public int held(int m, int w) {
        if (!has(mutexes, m) || w < 0 || w > 2) {
            return NONE;
        }
        Mutex mutex = mutexes.get(m);
        if (w == 0) {
            return mutex.owner == null ? NONE : mutex.owner.number;
        }
        return w == 1 ? mutex.waiting.size() : ceil(m);
    }

    private int ceil(int m) {
        return tasks.stream().filter(t -> t.body.stream().anyMatch(s -> s[0] == 1 && s[1] == m))
                .mapToInt(t -> t.priority).max().orElse(0);
    }

    @Override
    public int event(int k, int w) {
        return k < 40 && has(events, k) && w >= 0 && w <= 2 ? events.get(k)[w] : NONE;
    }

    @Override
    public int response(int t) {
        argument(has(tasks, t));
        Task task = tasks.get(t);
        int own = task.cost() + blocking(task);
        int before = -1;
        int now = own;
        while (now != before && now <= 1000) {
            before = now;
            now = own;
            for (Task other : tasks) {
                if (other != task && other.period != 0 && other.priority >= task.priority) {
                    now += (before + other.period - 1) / other.period * other.cost();
                }
            }
        }
        return now > 1000 ? NONE : now;
    }

    private int blocking(Task task) {
        int greatest = 0;
        for (Task other : tasks) {
            for (int i = 0; i < other.body.size(); i++) {
                int[] step = other.body.get(i);
                if (other.priority < task.priority && step[0] == 1 && ceil(step[1]) >= task.priority) {
                    greatest = Math.max(greatest, section(other.body, i));
                }
            }
        }
        return greatest;
    }

    private static int section(List<int[]> body, int lock) {
        int sum = 0;
        for (int[] step : body.subList(lock + 1, body.size())) {
            if (step[0] == 2 && step[1] == body.get(lock)[1]) {
                break;
            }
            sum += step[0] == 0 ? step[1] : 0;
        }
        return sum;
    }

    @Override
    public double load() {
        double sum = 0;
        for (Task task : tasks) {
            sum += task.period == 0 ? 0 : task.cost() / (double) task.period;
        }
        return sum;
    }

    @Override
    public int look(int which) {
        int[] answers = {time, tasks.size(), mutexes.size(), started ? 1 : 0, last == null ? NONE : last.number,
            events.size()};
        return which >= 0 && which < answers.length ? answers[which] : NONE;
    }

    private static boolean has(List<?> list, int index) {
        return index >= 0 && index < list.size();
    }

    private static void argument(boolean holds) {
        if (!holds) {
            throw new IllegalArgumentException();
        }
    }

    private static void state(boolean holds) {
        if (!holds) {
            throw new IllegalStateException();
        }
    }
}
