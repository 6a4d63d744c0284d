/** Promise 8: tick: its answers and throws, and the five parts of a TICK. (Mutexes: Promise08MutexesTest.) */
public final class Promise08TickTest {
    private static final Check CHECK = new Check("Promise08TickTest");

    public static void main(String[] args) {
        answersAndThrows();
        theMostUrgentOneWorks();
        ofAlikeTheOneThatWorkedLast();
        ofAlikeTheOneReadyForLongest();
        nearestDueTimeWithDeadlines();
        periods();
        misses();
        missesComeAheadOfReleases();
        missesInTheOrderOfTasks();
        over();
        stepsWithoutTime();
        goesOnBehindTheLastUnit();
        CHECK.end();
    }

    private static void answersAndThrows() {
        TaskKernel k = new TaskKernel(0);
        k.task(1, 3, 2, 9, 9);
        Check.body(k, 0, "W1");
        CHECK.dueState(k, "tick(1) ahead of the START", () -> k.tick(1));
        CHECK.dueState(k, "tick(0) ahead of the START", () -> k.tick(0));
        CHECK.dueArgument(k, "tick(501) ahead of the START", () -> k.tick(501));
        k.start();
        int[] wrong = {-1, 501, Integer.MIN_VALUE, Integer.MAX_VALUE};
        for (int n : wrong) {
            CHECK.dueArgument(k, "tick(" + n + ")", () -> k.tick(n));
        }
        String before = Check.whole(k);
        CHECK.due("tick(0)", k.tick(0), 0);
        CHECK.due("all that can be seen behind tick(0)", Check.whole(k), before);
        CHECK.due("tick(2): none is released yet", k.tick(2), 0);
        CHECK.due("tick(9): releases at 2, 5 and 8", k.tick(9), 3);
        CHECK.due("look(0)", k.look(0), 11);
        CHECK.due("tick(500): releases at 11, 14 .. 509", k.tick(500), 167);
        CHECK.due("look(0)", k.look(0), 511);
    }

    private static void theMostUrgentOneWorks() {
        TaskKernel k = new TaskKernel(0);
        Check.plainTask(k, 1, "W4");
        Check.plainTask(k, 3, "W2");
        Check.plainTask(k, 2, "W2");
        k.start();
        k.release(0);
        CHECK.due("who works", Check.workers(k, 1), "0");
        k.release(2);
        CHECK.due("who works", Check.workers(k, 1), "2");
        k.release(1);
        CHECK.due("who works", Check.workers(k, 7), "112000.");
    }

    private static void ofAlikeTheOneThatWorkedLast() {
        TaskKernel k = new TaskKernel(0);
        Check.plainTask(k, 5, "W1");
        Check.plainTask(k, 5, "W3");
        k.start();
        k.release(0);
        k.tick(1);
        k.release(1);
        k.release(0);
        CHECK.due("who works: 0 worked last, 1 is READY for longer", Check.workers(k, 5), "0111.");
        k.release(0);
        k.release(1);
        CHECK.due("who works: no turns among alike tasks", Check.workers(k, 5), "1110.");
    }

    private static void ofAlikeTheOneReadyForLongest() {
        TaskKernel k = new TaskKernel(0);
        Check.plainTask(k, 5, "W2");
        Check.plainTask(k, 5, "W2");
        Check.plainTask(k, 5, "W2");
        k.start();
        k.release(2);
        k.release(0);
        k.tick(1);
        k.release(1);
        CHECK.due("who works", Check.workers(k, 6), "20011.");
        readyAnewWhenGiven();
    }

    /** Task 0 is BLOCKED ahead of the job of task 1, but READY anew, and so behind it, when it gets the mutex. */
    private static void readyAnewWhenGiven() {
        TaskKernel k = new TaskKernel(0);
        k.mutex(1, 0);
        Check.plainTask(k, 4, "L0 W1");
        Check.plainTask(k, 4, "W1");
        Check.plainTask(k, 1, "L0 W3 U0");
        k.start();
        k.release(2);
        k.tick(1);
        k.release(0);
        CHECK.due("who works", Check.workers(k, 1), "2");
        CHECK.due("seen(0, 0)", k.seen(0, 0), 2);
        k.release(1);
        CHECK.due("who works: 2 is as urgent as 1 and worked last", Check.workers(k, 4), "210.");
    }

    private static void nearestDueTimeWithDeadlines() {
        TaskKernel k = new TaskKernel(1);
        k.task(9, 0, 0, 20, 200);
        k.task(1, 0, 0, 12, 200);
        k.task(5, 0, 0, 16, 200);
        for (int t = 0; t < 3; t++) {
            Check.body(k, t, "W3");
        }
        k.start();
        k.release(0);
        k.tick(1);
        k.release(2);
        k.tick(1);
        k.release(1);
        CHECK.due("who works", Check.workers(k, 8), "1112200.");
        TaskKernel alike = new TaskKernel(1);
        alike.task(1, 0, 0, 20, 200);
        alike.task(9, 0, 0, 18, 200);
        Check.body(alike, 0, "W9");
        Check.body(alike, 1, "W2");
        alike.start();
        alike.release(0);
        alike.tick(2);
        alike.release(1);
        CHECK.due("who works: both due at 20, 0 worked last", Check.workers(alike, 10), "000000011.");
    }

    private static void periods() {
        TaskKernel k = new TaskKernel(0);
        k.task(1, 3, 2, 9, 9);
        k.task(1, 4, 0, 9, 9);
        Check.body(k, 0, "W1");
        Check.body(k, 1, "W1");
        k.start();
        CHECK.due("who works", Check.workers(k, 12), "1.0.10..01.0");
        CHECK.due("the latest events", Check.latest(k, 6),
                "release 0@8, release 1@8, DONE 0@8, DONE 1@9, release 0@11, DONE 0@11");
        TaskKernel late = new TaskKernel(0);
        late.task(1, 200, 50, 9, 9);
        Check.body(late, 0, "W1");
        late.start();
        CHECK.due("tick(50), offset 50", late.tick(50), 0);
        CHECK.due("tick(200)", late.tick(200), 1);
        CHECK.due("tick(1), a period later", late.tick(1), 1);
        TaskKernel below = new TaskKernel(0);
        below.task(1, 2, 5, 9, 9);
        Check.body(below, 0, "W1");
        below.start();
        CHECK.due("who works: no release below an offset above the period", Check.workers(below, 8), ".....0.0");
        TaskKernel full = new TaskKernel(0);
        full.task(1, 2, 0, 9, 9);
        Check.body(full, 0, "W3");
        full.start();
        full.tick(6);
        CHECK.due("the events: a LOST release is noted as that alone", Check.events(full),
                "release 0@0, LOST 0@2, DONE 0@2, release 0@4");
    }

    private static void misses() {
        TaskKernel k = new TaskKernel(0);
        k.task(1, 0, 0, 4, 200);
        k.task(2, 0, 0, 3, 200);
        Check.body(k, 0, "W4");
        Check.body(k, 1, "W4");
        k.start();
        k.release(0);
        k.tick(9);
        CHECK.due("the events: DONE in the last tick is no MISS", Check.events(k), "release 0@0, DONE 0@3");
        k.release(1);
        k.tick(9);
        CHECK.due("the latest events: one MISS, at the due time", Check.latest(k, 3),
                "release 1@9, MISS 1@12, DONE 1@12");
    }

    private static void missesComeAheadOfReleases() {
        TaskKernel k = new TaskKernel(0);
        k.task(1, 4, 0, 4, 200);
        Check.body(k, 0, "W5");
        k.start();
        k.tick(5);
        CHECK.due("the events", Check.events(k), "release 0@0, MISS 0@4, LOST 0@4, DONE 0@4");
        TaskKernel strict = new TaskKernel(0);
        strict.task(1, 4, 0, 4, 200);
        strict.strict(0, true);
        Check.body(strict, 0, "W5");
        strict.start();
        CHECK.due("tick(6)", strict.tick(6), 6);
        CHECK.due("the events", Check.events(strict), "release 0@0, MISS 0@4, FAILED 0@4, release 0@4");
    }

    private static void missesInTheOrderOfTasks() {
        TaskKernel k = new TaskKernel(0);
        k.mutex(0, 0);
        k.task(1, 0, 0, 2, 200);
        k.task(9, 0, 0, 2, 200);
        Check.body(k, 0, "W9");
        Check.body(k, 1, "L0 W9");
        k.strict(1, true);
        k.strict(0, true);
        k.start();
        k.release(1);
        k.release(0);
        k.tick(3);
        CHECK.due("the events", Check.events(k),
                "release 1@0, release 0@0, MISS 0@2, FAILED 0@2, MISS 1@2, FAILED 1@2");
        CHECK.due("held(0, 0): a job that FAILS gives its mutexes", k.held(0, 0), -1);
    }

    private static void over() {
        TaskKernel k = new TaskKernel(0);
        k.task(1, 0, 0, 200, 2);
        k.task(1, 0, 0, 200, 5);
        k.task(1, 0, 0, 200, 3);
        Check.body(k, 0, "W2 W3");
        Check.body(k, 1, "W5");
        Check.body(k, 2, "W4");
        k.start();
        k.release(0);
        k.tick(6);
        k.release(0);
        k.tick(6);
        CHECK.due("the events: once for each job", Check.events(k),
                "release 0@0, OVER 0@2, DONE 0@4, release 0@6, OVER 0@8, DONE 0@10");
        k.release(1);
        k.tick(6);
        CHECK.due("the latest events: as much as the budget is not OVER", Check.latest(k, 2),
                "release 1@12, DONE 1@16");
        k.release(2);
        k.tick(6);
        CHECK.due("the latest events: OVER ahead of DONE", Check.latest(k, 3), "release 2@18, OVER 2@21, DONE 2@21");
    }

    private static void stepsWithoutTime() {
        TaskKernel k = new TaskKernel(0);
        int[] priorities = {1, 3, 2};
        for (int priority : priorities) {
            k.task(priority, 0, 0, 9, 9);
        }
        k.start();
        for (int t = 0; t < 3; t++) {
            k.release(t);
        }
        CHECK.due("tick(1): none worked", k.tick(1), 0);
        CHECK.due("the latest events: in the order of urgency", Check.latest(k, 3), "DONE 1@0, DONE 2@0, DONE 0@0");
        CHECK.due("look(4)", k.look(4), -1);
        TaskKernel late = new TaskKernel(0);
        late.mutex(0, 0);
        Check.plainTask(late, 1, "L0 U0");
        Check.plainTask(late, 2, "L0 U0 W2");
        late.start();
        late.release(0);
        late.release(1);
        late.tick(1);
        CHECK.due("seen(0, 1): does not go on while a more urgent one is at a WORK", late.seen(0, 1), 0);
        CHECK.due("seen(0, 0)", late.seen(0, 0), 1);
    }

    private static void goesOnBehindTheLastUnit() {
        TaskKernel k = new TaskKernel(0);
        k.task(1, 0, 0, 9, 9);
        k.task(2, 0, 0, 9, 9);
        Check.body(k, 1, "W1");
        k.start();
        k.release(0);
        k.release(1);
        k.tick(1);
        CHECK.due("seen(0, 0): the other one waits for the next tick", k.seen(0, 0), 1);
        CHECK.due("the latest events", Check.latest(k, 1), "DONE 1@0");
        CHECK.due("tick(1)", k.tick(1), 0);
        CHECK.due("the latest events", Check.latest(k, 1), "DONE 0@1");
    }
}
