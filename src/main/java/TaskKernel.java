/**
 * A kernel that lets one task run at a time: the most urgent one by a fixed priority or by its deadline, with mutexes
 * that lend their owner the urgency of those who wait or of a ceiling; it notes deadlines that are missed and budgets
 * that are passed, and reckons before the start whether a set of tasks can keep its deadlines.
 */
public final class TaskKernel {
    public static final int NONE = -1;

    private static final int MOST_TASKS = 8;
    private static final int MOST_MUTEXES = 4;
    private static final int MOST_STEPS = 10;
    private static final int MOST_UNITS = 20;
    private static final int MOST_PRIORITY = 31;
    private static final int LEAST_PERIOD = 2;
    private static final int MOST_PERIOD = 200;
    private static final int MOST_OFFSET = 50;
    private static final int MOST_DEADLINE = 200;
    private static final int MOST_BUDGET = 200;
    private static final int MOST_TICKS = 500;
    private static final int MOST_RESPONSE = 1000;
    private static final int EVENTS_KEPT = 40;

    /** Far above what one tick can need: each of 8 jobs passes, or is blocked at, at most 10 steps. */
    private static final int MOST_TURNS = 1000;

    private static final int WORK = 0;
    private static final int LOCK = 1;
    private static final int UNLOCK = 2;

    private static final int PLAIN = 0;
    private static final int LENDING = 1;
    private static final int CEILING = 2;

    private static final int IDLE = 0;
    private static final int READY = 1;
    private static final int BLOCKED = 2;

    private static final int RELEASE_NOTED = 0;
    private static final int LOST_NOTED = 1;
    private static final int DONE_NOTED = 2;
    private static final int FAILED_NOTED = 3;
    private static final int MISS_NOTED = 4;
    private static final int BLOCKED_NOTED = 5;
    private static final int GIVEN_NOTED = 6;
    private static final int OVER_NOTED = 7;

    private final boolean byDeadline;
    private final Task[] tasks = new Task[MOST_TASKS];
    private final Mutex[] mutexes = new Mutex[MOST_MUTEXES];
    private final Journal journal = new Journal();
    private int taskCount;
    private int mutexCount;
    private boolean started;
    private int time;
    private Task workedLast;
    /** Counts how often a task became READY or BLOCKED, so that it can be told who did so first. */
    private int changes;

    public TaskKernel(int deadlines) {
        byDeadline = deadlines != 0;
    }

    // ---- what is given before the start ----

    public int task(int priority, int period, int offset, int deadline, int budget)
            throws IllegalArgumentException, IllegalStateException {
        boolean timely = period == 0 || within(period, LEAST_PERIOD, MOST_PERIOD);
        if (!timely || !within(priority, 1, MOST_PRIORITY) || !within(offset, 0, MOST_OFFSET)
                || !within(deadline, 1, MOST_DEADLINE) || !within(budget, 1, MOST_BUDGET)) {
            throw new IllegalArgumentException("a number of the task is out of its range");
        }
        if (started || taskCount >= MOST_TASKS) {
            throw new IllegalStateException("no more tasks can be given");
        }
        int number = taskCount;
        tasks[number] = new Task(number, priority, period, offset, deadline, budget);
        taskCount++;
        return number;
    }

    public boolean strict(int t, boolean is) {
        if (!isTask(t)) {
            return false;
        }
        tasks[t].isStrict = is;
        return true;
    }

    public int mutex(int protocol, int ceiling) throws IllegalArgumentException, IllegalStateException {
        boolean ceilingFits = protocol != CEILING || within(ceiling, 1, MOST_PRIORITY);
        if (!within(protocol, PLAIN, CEILING) || !ceilingFits) {
            throw new IllegalArgumentException("the protocol or its ceiling is out of its range");
        }
        if (started || mutexCount >= MOST_MUTEXES) {
            throw new IllegalStateException("no more mutexes can be given");
        }
        int number = mutexCount;
        mutexes[number] = new Mutex(number, protocol, ceiling);
        mutexCount++;
        return number;
    }

    public int step(int t, int kind, int a) throws IllegalArgumentException, IllegalStateException {
        if (!isTask(t) || !isStep(kind, a)) {
            throw new IllegalArgumentException("no such task, kind or mutex, or units out of their range");
        }
        Body body = tasks[t].body;
        if (started || body.size >= MOST_STEPS) {
            throw new IllegalStateException("no more steps can be given");
        }
        body.append(kind, a);
        return body.size;
    }

    public void start() throws IllegalStateException {
        if (started || taskCount == 0) {
            throw new IllegalStateException("started before, or without a task");
        }
        started = true;
    }

    private boolean isTask(int t) {
        return within(t, 0, taskCount - 1);
    }

    private boolean isMutex(int m) {
        return within(m, 0, mutexCount - 1);
    }

    private boolean isStep(int kind, int a) {
        if (kind == WORK) {
            return within(a, 1, MOST_UNITS);
        }
        return (kind == LOCK || kind == UNLOCK) && isMutex(a);
    }

    private static boolean within(int number, int least, int most) {
        return number >= least && number <= most;
    }

    // ---- the run ----

    public boolean release(int t) {
        if (!started || !isTask(t) || tasks[t].period != 0) {
            return false;
        }
        beginJob(tasks[t]);
        return true;
    }

    public int tick(int n) throws IllegalArgumentException, IllegalStateException {
        if (!within(n, 0, MOST_TICKS)) {
            throw new IllegalArgumentException("so many ticks can not be asked for");
        }
        if (!started) {
            throw new IllegalStateException("not started yet");
        }
        int busy = 0;
        for (int i = 0; i < n; i++) {
            noteMisses();
            releasePeriodic();
            Task first = settle();
            if (first != null) {
                workOneUnit(first);
                busy++;
            }
            time++;
        }
        return busy;
    }

    private void noteMisses() {
        for (int i = 0; i < taskCount; i++) {
            Task task = tasks[i];
            if (task.job.state != IDLE && task.job.due == time) {
                task.tally.misses++;
                note(MISS_NOTED, task);
                if (task.isStrict) {
                    task.tally.failed++;
                    endJob(task, FAILED_NOTED);
                }
            }
        }
    }

    private void releasePeriodic() {
        for (int i = 0; i < taskCount; i++) {
            if (tasks[i].isPeriodicAt(time)) {
                beginJob(tasks[i]);
            }
        }
    }

    private void beginJob(Task task) {
        if (task.job.state != IDLE) {
            task.tally.lost++;
            note(LOST_NOTED, task);
            return;
        }
        task.job.begin(time, task.deadline, nextChange());
        note(RELEASE_NOTED, task);
    }

    /** Lets tasks go on until the most urgent one is at a WORK, and answers that one; null if none is READY. */
    private Task settle() {
        for (int turn = 0; turn < MOST_TURNS; turn++) {
            Task first = mostUrgentReady();
            if (first == null || first.isAtWork()) {
                return first;
            }
            goOn(first, time);
        }
        return null;
    }

    private void workOneUnit(Task task) {
        Job job = task.job;
        workedLast = task;
        job.worked++;
        job.workedAtStep++;
        task.tally.worked++;
        // Only the first unit beyond the budget is noted, so equality and not "greater" is asked for.
        if (job.worked == task.budget + 1) {
            note(OVER_NOTED, task);
        }
        if (job.workedAtStep >= task.body.amounts[job.at]) {
            job.passStep();
            goOn(task, time + 1);
        }
    }

    /** The caller tells when a job that ends here is over, as a unit that was just worked fills its tick to the end. */
    private void goOn(Task task, int overAt) {
        Job job = task.job;
        Body body = task.body;
        for (int left = body.size - job.at; left > 0; left--) {
            int kind = body.kinds[job.at];
            if (kind == WORK) {
                return;
            }
            Mutex mutex = mutexes[body.amounts[job.at]];
            if (stepFails(task, kind, mutex)) {
                task.tally.failed++;
                endJob(task, FAILED_NOTED);
                return;
            }
            if (kind == UNLOCK) {
                giveAway(mutex);
            } else if (mutex.owner == null) {
                mutex.owner = task;
            } else {
                job.blockAt(mutex, nextChange());
                note(BLOCKED_NOTED, task);
                return;
            }
            job.passStep();
        }
        task.tally.addDone(overAt - job.releasedAt);
        endJob(task, DONE_NOTED);
    }

    private boolean stepFails(Task task, int kind, Mutex mutex) {
        if (kind == UNLOCK) {
            return mutex.owner != task;
        }
        boolean aboveCeiling = !byDeadline && mutex.protocol == CEILING && task.priority > mutex.ceiling;
        return mutex.owner == task || aboveCeiling;
    }

    private void endJob(Task task, int noted) {
        note(noted, task);
        // IDLE ahead of the giving: a job that has ended waits nowhere, and so lends its urgency to none of the heirs.
        task.job.end();
        for (int i = 0; i < mutexCount; i++) {
            if (mutexes[i].owner == task) {
                giveAway(mutexes[i]);
            }
        }
    }

    private void giveAway(Mutex mutex) {
        rankTasks();
        Task heir = heirOf(mutex);
        mutex.owner = heir;
        if (heir != null) {
            heir.job.resume(nextChange());
            note(GIVEN_NOTED, heir);
        }
    }

    private Task heirOf(Mutex mutex) {
        Task heir = null;
        for (int i = 0; i < taskCount; i++) {
            Task task = tasks[i];
            if (task.job.blockedAt == mutex && (heir == null || task.job.inheritsAhead(heir.job))) {
                heir = task;
            }
        }
        return heir;
    }

    private int nextChange() {
        changes++;
        return changes;
    }

    private void note(int kind, Task task) {
        journal.add(kind, time, task.number);
    }

    // ---- who is the most urgent ----

    private Task mostUrgentReady() {
        rankTasks();
        Task first = null;
        for (int i = 0; i < taskCount; i++) {
            Task task = tasks[i];
            if (task.job.state == READY && (first == null || goesAhead(task, first))) {
                first = task;
            }
        }
        return first;
    }

    private boolean goesAhead(Task one, Task other) {
        if (one.job.rank != other.job.rank) {
            return one.job.rank > other.job.rank;
        }
        if (one == workedLast || other == workedLast) {
            return one == workedLast;
        }
        return one.job.since < other.job.since;
    }

    /** Ranks hold only until the next change, so whoever compares tasks calls this first. */
    private void rankTasks() {
        for (int i = 0; i < taskCount; i++) {
            Task task = tasks[i];
            task.job.rank = byDeadline ? -task.job.due : task.priority;
        }
        if (!byDeadline) {
            liftToCeilings();
        }
        // A chain of lenders has fewer links than there are tasks; tasks that wait in a ring end up alike.
        boolean lent = true;
        for (int round = 0; lent && round < taskCount; round++) {
            lent = lendOnce();
        }
    }

    private void liftToCeilings() {
        for (int i = 0; i < mutexCount; i++) {
            Mutex mutex = mutexes[i];
            if (mutex.protocol == CEILING && mutex.owner != null && mutex.owner.job.rank < mutex.ceiling) {
                mutex.owner.job.rank = mutex.ceiling;
            }
        }
    }

    private boolean lendOnce() {
        boolean lent = false;
        for (int i = 0; i < taskCount; i++) {
            Job lender = tasks[i].job;
            Mutex mutex = lender.blockedAt;
            if (mutex != null && mutex.protocol == LENDING && mutex.owner != null
                    && mutex.owner.job.rank < lender.rank) {
                mutex.owner.job.rank = lender.rank;
                lent = true;
            }
        }
        return lent;
    }

    private int urgencyOf(Task task) {
        if (task.job.state == IDLE) {
            return 0;
        }
        rankTasks();
        return byDeadline ? -task.job.rank : task.job.rank;
    }

    // ---- what can be seen ----

    public int seen(int t, int w) {
        if (!isTask(t)) {
            return NONE;
        }
        Task task = tasks[t];
        switch (w) {
            case 0:
                return task.job.state;
            case 1:
                return task.job.state == IDLE ? NONE : task.job.at;
            case 2:
                return urgencyOf(task);
            case 3:
                return task.tally.done;
            case 4:
                return task.tally.failed;
            case 5:
                return task.tally.misses;
            case 6:
                return task.tally.lost;
            case 7:
                return task.tally.worked;
            case 8:
                return task.tally.longest;
            case 9:
                return task.job.blockedAt == null ? NONE : task.job.blockedAt.number;
            default:
                return NONE;
        }
    }

    public int held(int m, int w) {
        if (!isMutex(m)) {
            return NONE;
        }
        Mutex mutex = mutexes[m];
        switch (w) {
            case 0:
                return mutex.owner == null ? NONE : mutex.owner.number;
            case 1:
                return countBlockedAt(mutex);
            case 2:
                return ceilOf(m);
            default:
                return NONE;
        }
    }

    public int event(int k, int w) {
        return journal.answer(k, w);
    }

    public int look(int which) {
        switch (which) {
            case 0:
                return time;
            case 1:
                return taskCount;
            case 2:
                return mutexCount;
            case 3:
                return started ? 1 : 0;
            case 4:
                return workedLast == null ? NONE : workedLast.number;
            case 5:
                return journal.total;
            default:
                return NONE;
        }
    }

    private int countBlockedAt(Mutex mutex) {
        int count = 0;
        for (int i = 0; i < taskCount; i++) {
            if (tasks[i].job.blockedAt == mutex) {
                count++;
            }
        }
        return count;
    }

    // ---- the reckoning ----

    public int response(int t) throws IllegalArgumentException {
        if (!isTask(t)) {
            throw new IllegalArgumentException("no such task");
        }
        Task task = tasks[t];
        int own = task.body.cost() + blockingOf(task);
        int reckoned = own;
        // It grows in every round but the last one, so that it is above its limit within these rounds or stays.
        for (int round = 0; round <= MOST_RESPONSE + 1; round++) {
            int next = own + interferenceWith(task, reckoned);
            if (next > MOST_RESPONSE) {
                return NONE;
            }
            if (next == reckoned) {
                return reckoned;
            }
            reckoned = next;
        }
        return NONE;
    }

    public double load() {
        double sum = 0.0;
        for (int i = 0; i < taskCount; i++) {
            Task task = tasks[i];
            if (task.period > 0) {
                sum += (double) task.body.cost() / (double) task.period;
            }
        }
        return sum;
    }

    private int blockingOf(Task task) {
        int greatest = 0;
        for (int m = 0; m < mutexCount; m++) {
            if (ceilOf(m) >= task.priority) {
                greatest = Math.max(greatest, greatestSectionBelow(task.priority, m));
            }
        }
        return greatest;
    }

    private int greatestSectionBelow(int priority, int m) {
        int greatest = 0;
        for (int i = 0; i < taskCount; i++) {
            if (tasks[i].priority < priority) {
                greatest = Math.max(greatest, tasks[i].body.greatestSection(m));
            }
        }
        return greatest;
    }

    private int interferenceWith(Task task, int span) {
        int sum = 0;
        for (int i = 0; i < taskCount; i++) {
            Task other = tasks[i];
            if (other != task && other.period > 0 && other.priority >= task.priority) {
                sum += (span + other.period - 1) / other.period * other.body.cost();
            }
        }
        return sum;
    }

    private int ceilOf(int m) {
        int ceil = 0;
        for (int i = 0; i < taskCount; i++) {
            if (tasks[i].body.hasLockOf(m)) {
                ceil = Math.max(ceil, tasks[i].priority);
            }
        }
        return ceil;
    }

    // ---- the parts ----

    private static final class Task {
        final int number;
        final int priority;
        final int period;
        final int offset;
        final int deadline;
        final int budget;
        final Body body = new Body();
        final Job job = new Job();
        final Tally tally = new Tally();
        boolean isStrict;

        Task(int number, int priority, int period, int offset, int deadline, int budget) {
            this.number = number;
            this.priority = priority;
            this.period = period;
            this.offset = offset;
            this.deadline = deadline;
            this.budget = budget;
        }

        boolean isPeriodicAt(int now) {
            return period > 0 && now >= offset && (now - offset) % period == 0;
        }

        boolean isAtWork() {
            return job.at < body.size && body.kinds[job.at] == WORK;
        }
    }

    /** The steps of a task: of each its kind, and the units or the mutex that it names. */
    private static final class Body {
        final int[] kinds = new int[MOST_STEPS];
        final int[] amounts = new int[MOST_STEPS];
        int size;

        void append(int kind, int amount) {
            kinds[size] = kind;
            amounts[size] = amount;
            size++;
        }

        int cost() {
            int sum = 0;
            for (int i = 0; i < size; i++) {
                if (kinds[i] == WORK) {
                    sum += amounts[i];
                }
            }
            return sum;
        }

        boolean hasLockOf(int m) {
            for (int i = 0; i < size; i++) {
                if (kinds[i] == LOCK && amounts[i] == m) {
                    return true;
                }
            }
            return false;
        }

        int greatestSection(int m) {
            int greatest = 0;
            for (int i = 0; i < size; i++) {
                if (kinds[i] == LOCK && amounts[i] == m) {
                    greatest = Math.max(greatest, sectionFrom(i + 1, m));
                }
            }
            return greatest;
        }

        private int sectionFrom(int from, int m) {
            int sum = 0;
            for (int i = from; i < size; i++) {
                if (kinds[i] == UNLOCK && amounts[i] == m) {
                    return sum;
                }
                if (kinds[i] == WORK) {
                    sum += amounts[i];
                }
            }
            return sum;
        }
    }

    /** One for each task, used again for each of its jobs. */
    private static final class Job {
        int state = IDLE;
        int at;
        int workedAtStep;
        int worked;
        int releasedAt;
        int due;
        /** Which change of the kernel made it READY, or BLOCKED: the lesser, the longer it is so. */
        int since;
        Mutex blockedAt;
        /** The urgency, turned so that the greater is the more urgent with both policies. */
        int rank;

        void begin(int now, int deadline, int change) {
            state = READY;
            at = 0;
            workedAtStep = 0;
            worked = 0;
            releasedAt = now;
            due = now + deadline;
            since = change;
        }

        void passStep() {
            at++;
            workedAtStep = 0;
        }

        void blockAt(Mutex mutex, int change) {
            state = BLOCKED;
            blockedAt = mutex;
            since = change;
        }

        void resume(int change) {
            state = READY;
            blockedAt = null;
            since = change;
            passStep();
        }

        void end() {
            state = IDLE;
            blockedAt = null;
        }

        boolean inheritsAhead(Job other) {
            return rank != other.rank ? rank > other.rank : since < other.since;
        }
    }

    private static final class Tally {
        int done;
        int failed;
        int misses;
        int lost;
        int worked;
        int longest;

        void addDone(int span) {
            done++;
            longest = Math.max(longest, span);
        }
    }

    private static final class Mutex {
        final int number;
        final int protocol;
        final int ceiling;
        Task owner;

        Mutex(int number, int protocol, int ceiling) {
            this.number = number;
            this.protocol = protocol;
            this.ceiling = ceiling;
        }
    }

    /** The latest events, in rows that are written over from the oldest on. */
    private static final class Journal {
        final int[] kinds = new int[EVENTS_KEPT];
        final int[] times = new int[EVENTS_KEPT];
        final int[] numbers = new int[EVENTS_KEPT];
        int total;
        int next;

        void add(int kind, int time, int number) {
            kinds[next] = kind;
            times[next] = time;
            numbers[next] = number;
            next = (next + 1) % EVENTS_KEPT;
            total++;
        }

        int answer(int k, int w) {
            if (k < 0 || k >= Math.min(total, EVENTS_KEPT)) {
                return NONE;
            }
            int row = (next + EVENTS_KEPT - 1 - k) % EVENTS_KEPT;
            switch (w) {
                case 0:
                    return kinds[row];
                case 1:
                    return times[row];
                case 2:
                    return numbers[row];
                default:
                    return NONE;
            }
        }
    }
}
