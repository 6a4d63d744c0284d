/** Terms, the ranges: the least and the most of each number count in a run, and all that can be given is used. */
public final class TermsRangesTest {
    private static final Check CHECK = new Check("TermsRangesTest");
    private static final String MOST_WORK = "W20 W20 W20 W20 W20 W20 W20 W20 W20 W20";

    public static void main(String[] args) {
        leastAndMostPriority();
        leastDeadline();
        mostDeadline();
        leastBudget();
        mostBudget();
        mostUnitsOfOneWork();
        leastPeriodBehindMostOffset();
        eightTasks();
        fourMutexesInTenSteps();
        tenStepsWithoutTime();
        theTenthStepFails();
        aCallWithTheMostTicksAgainAndAgain();
        CHECK.end();
    }

    private static void leastAndMostPriority() {
        TaskKernel k = new TaskKernel(0);
        Check.plainTask(k, 1, "W1");
        Check.plainTask(k, 31, "W1");
        k.start();
        Check.releaseAll(k, 0, 1);
        CHECK.due("the urgencies of priorities 1 and 31", Check.urgencies(k, 2), "1 31");
        CHECK.due("who works", Check.workers(k, 3), "10.");
    }

    private static String eventsOfOneJob(int deadline, int budget, String steps) {
        TaskKernel k = new TaskKernel(0);
        k.task(1, 0, 0, deadline, budget);
        Check.body(k, 0, steps);
        k.start();
        k.release(0);
        k.tick(250);
        return Check.events(k);
    }

    private static void leastDeadline() {
        CHECK.due("deadline 1, one unit", eventsOfOneJob(1, 200, "W1"), "release 0@0, DONE 0@0");
        CHECK.due("deadline 1, two units", eventsOfOneJob(1, 200, "W2"), "release 0@0, MISS 0@1, DONE 0@1");
    }

    /** The most work there is just fits the greatest deadline; a unit of another task makes it a MISS. */
    private static void mostDeadline() {
        CHECK.due("deadline 200, 200 units", eventsOfOneJob(200, 200, MOST_WORK), "release 0@0, DONE 0@199");
        TaskKernel k = new TaskKernel(0);
        Check.plainTask(k, 1, MOST_WORK);
        Check.plainTask(k, 2, "W1");
        k.start();
        Check.releaseAll(k, 0, 1);
        k.tick(250);
        CHECK.due("deadline 200, one unit too late", Check.events(k),
                "release 0@0, release 1@0, DONE 1@0, MISS 0@200, DONE 0@200");
    }

    private static void leastBudget() {
        CHECK.due("budget 1, one unit", eventsOfOneJob(200, 1, "W1"), "release 0@0, DONE 0@0");
        CHECK.due("budget 1, two units", eventsOfOneJob(200, 1, "W2"), "release 0@0, OVER 0@1, DONE 0@1");
    }

    private static void mostBudget() {
        CHECK.due("budget 199, 200 units", eventsOfOneJob(200, 199, MOST_WORK),
                "release 0@0, OVER 0@199, DONE 0@199");
    }

    private static void mostUnitsOfOneWork() {
        TaskKernel k = new TaskKernel(0);
        Check.plainTask(k, 1, "W20 W1");
        k.start();
        k.release(0);
        k.tick(19);
        CHECK.due("seen(0, 1) behind 19 units of 20", k.seen(0, 1), 0);
        k.tick(1);
        CHECK.due("seen(0, 1) behind 20 units of 20", k.seen(0, 1), 1);
        CHECK.due("tick(9)", k.tick(9), 1);
    }

    private static void leastPeriodBehindMostOffset() {
        TaskKernel k = new TaskKernel(0);
        k.task(1, 2, 50, 2, 1);
        Check.body(k, 0, "W1");
        k.start();
        CHECK.due("tick(50)", k.tick(50), 0);
        CHECK.due("who works from 50 on", Check.workers(k, 5), "0.0.0");
        CHECK.due("tick(445): releases at 56, 58 .. 498", k.tick(445), 222);
    }

    private static void eightTasks() {
        TaskKernel k = new TaskKernel(0);
        for (int t = 0; t < 8; t++) {
            Check.plainTask(k, 1 + t, "W1");
        }
        CHECK.due("strict(7, true)", k.strict(7, true), true);
        CHECK.due("strict(8, true)", k.strict(8, true), false);
        CHECK.due("response(7)", k.response(7), 1);
        CHECK.dueArgument(k, "response(8)", () -> k.response(8));
        CHECK.dueArgument(k, "step(8, 0, 1)", () -> k.step(8, 0, 1));
        CHECK.due("step(7, 0, 1)", k.step(7, 0, 1), 2);
        k.start();
        for (int t = 0; t < 8; t++) {
            CHECK.due("release(" + t + ")", k.release(t), true);
        }
        CHECK.due("release(8)", k.release(8), false);
        CHECK.due("seen(7, 0)", k.seen(7, 0), 1);
        CHECK.due("seen(8, 0)", k.seen(8, 0), -1);
        CHECK.due("who works", Check.workers(k, 10), "776543210.");
        CHECK.due("the events of the last and the first task", Check.latest(k, 8),
                "DONE 7@1, DONE 6@2, DONE 5@3, DONE 4@4, DONE 3@5, DONE 2@6, DONE 1@7, DONE 0@8");
    }

    private static String owners(TaskKernel k) {
        return k.held(0, 0) + " " + k.held(1, 0) + " " + k.held(2, 0) + " " + k.held(3, 0);
    }

    private static void fourMutexesInTenSteps() {
        TaskKernel k = new TaskKernel(0);
        for (int m = 0; m < 4; m++) {
            k.mutex(m % 3, 5);
        }
        Check.plainTask(k, 5, "L0 L1 L2 L3 W1 U3 U2 U1 U0 W1");
        k.start();
        k.release(0);
        CHECK.due("the owners at the release", owners(k), "-1 -1 -1 -1");
        k.tick(1);
        CHECK.due("seen(0, 1): the last step", k.seen(0, 1), 9);
        CHECK.due("the owners behind U0", owners(k), "-1 -1 -1 -1");
        k.tick(1);
        CHECK.due("the events", Check.events(k), "release 0@0, DONE 0@1");
        CHECK.due("held(4, 0)", k.held(4, 0), -1);
    }

    private static String eventsOfOneTickWith(String steps) {
        TaskKernel k = new TaskKernel(0);
        k.mutex(0, 0);
        Check.plainTask(k, 1, steps);
        k.start();
        k.release(0);
        int worked = k.tick(1);
        return worked + ": " + Check.events(k) + "; " + k.seen(0, 8);
    }

    private static void tenStepsWithoutTime() {
        CHECK.due("a tick with ten steps that are no WORK, and seen(0, 8)",
                eventsOfOneTickWith("L0 U0 L0 U0 L0 U0 L0 U0 L0 U0"), "0: release 0@0, DONE 0@0; 0");
        CHECK.due("a tick with a WORK as the tenth step, and seen(0, 8)",
                eventsOfOneTickWith("L0 U0 L0 U0 L0 U0 L0 U0 L0 W1"), "1: release 0@0, DONE 0@0; 1");
    }

    private static void theTenthStepFails() {
        CHECK.due("a tick with a tenth step that FAILS", eventsOfOneTickWith("L0 U0 L0 U0 L0 U0 L0 U0 W1 U0"),
                "1: release 0@0, FAILED 0@0; 0");
    }

    /** As long as an object may be used: 512 calls. */
    private static void aCallWithTheMostTicksAgainAndAgain() {
        TaskKernel k = new TaskKernel(0);
        k.task(1, 2, 0, 2, 1);
        Check.body(k, 0, "W1");
        k.start();
        int busy = 0;
        for (int call = 0; call < 500; call++) {
            busy += k.tick(500);
        }
        CHECK.due("500 times tick(500)", busy, 125_000);
        CHECK.due("look(0)", k.look(0), 250_000);
        CHECK.due("seen(0, 3)", k.seen(0, 3), 125_000);
        CHECK.due("look(5)", k.look(5), 250_000);
        CHECK.due("event(39, 1)", k.event(39, 1), 249_960);
    }
}
