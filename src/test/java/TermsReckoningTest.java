/** Terms, RECKONING: nothing to reckon with, full bodies, and R at the end of a period. */
public final class TermsReckoningTest {
    private static final Check CHECK = new Check("TermsReckoningTest");

    public static void main(String[] args) {
        noBlocking();
        theGreatestSectionAlone();
        fullBodies();
        noCost();
        atTheEndOfAPeriod();
        CHECK.end();
    }

    private static TaskKernel withMutexes(int n) {
        TaskKernel k = new TaskKernel(0);
        for (int m = 0; m < n; m++) {
            k.mutex(0, 0);
        }
        return k;
    }

    private static void noBlocking() {
        TaskKernel k = withMutexes(2);
        Check.plainTask(k, 9, "L0 W4 U0");
        CHECK.due("response(0) without another task", k.response(0), 4);
        Check.plainTask(k, 1, "L1 W7 U1");
        CHECK.due("response(0): none of a lesser priority has a LOCK of mutex 0", k.response(0), 4);
        Check.plainTask(k, 2, "W5 L0 U0 W6");
        CHECK.due("response(0): a SECTION without a WORK", k.response(0), 4);
        Check.plainTask(k, 3, "W5 L0");
        CHECK.due("response(0): a LOCK as the last step", k.response(0), 4);
        Check.plainTask(k, 4, "L0 W1");
        CHECK.due("response(0): a SECTION of one unit", k.response(0), 5);
    }

    private static void theGreatestSectionAlone() {
        TaskKernel k = withMutexes(2);
        Check.plainTask(k, 9, "L0 L1 W1");
        Check.plainTask(k, 2, "L0 W5 U0 L1 W6 U1");
        Check.plainTask(k, 1, "L0 W3 U0");
        CHECK.due("response(0): the greatest, not the sum", k.response(0), 7);
    }

    private static void fullBodies() {
        TaskKernel k = withMutexes(4);
        Check.plainTask(k, 1, "W1 L0 W2 U0 L0 W3 W4 W5 W6 W7");
        Check.plainTask(k, 8, "W1 W1 W1 W1 W1 W1 W1 W1 W1 L0");
        Check.plainTask(k, 9, "W1 W1 W1 W1 W1 W1 W1 W1 L3 W1");
        CHECK.due("held(0, 2): a LOCK as the tenth step", k.held(0, 2), 8);
        CHECK.due("held(1, 2): no LOCK in ten steps", k.held(1, 2), 0);
        CHECK.due("held(3, 2): of the last mutex", k.held(3, 2), 9);
        CHECK.due("response(0)", k.response(0), 28);
        CHECK.due("response(1): a SECTION up to the tenth step", k.response(1), 9 + 25);
        CHECK.due("response(2): the CEIL of mutex 0 is below its priority", k.response(2), 9);
    }

    /** R is 0 at first, and no job of another task is in a span of 0. */
    private static void noCost() {
        TaskKernel k = withMutexes(1);
        k.task(1, 0, 0, 9, 9);
        k.task(5, 10, 0, 9, 9);
        Check.body(k, 1, "W3");
        CHECK.due("response(0) without steps beside a period", k.response(0), 0);
        CHECK.due("response(1)", k.response(1), 3);
        k.step(0, 1, 0);
        CHECK.due("response(0) with a LOCK alone", k.response(0), 0);
        k.step(0, 0, 1);
        CHECK.due("response(0) with one unit", k.response(0), 4);
        CHECK.due("load(): a task without a period costs nothing there", k.load(), 0.3);
    }

    private static int besideTwoOfEachFive(String steps) {
        TaskKernel k = new TaskKernel(0);
        Check.plainTask(k, 1, steps);
        k.task(2, 5, 0, 9, 9);
        Check.body(k, 1, "W2");
        return k.response(0);
    }

    private static void atTheEndOfAPeriod() {
        CHECK.due("response(0): R is the period", besideTwoOfEachFive("W3"), 5);
        CHECK.due("response(0): R is one above the period", besideTwoOfEachFive("W4"), 8);
        CHECK.due("response(0): R is twice the period", besideTwoOfEachFive("W6"), 10);
    }
}
