// Promises 16 and 17: blocking and response, worked out beforehand.
public final class BeforehandTest {
    public static void main(String[] args) {
        noneBeforeSealing();
        blockingByLesserBaseAlone();
        blockingByCeilingsHighEnough();
        blockingOfWhoUsesNothing();
        responseAlone();
        responseAtThePeriod();
        responseCountsPeriodsBegun();
        responseCountsSameBaseButNotLesser();
        responseWithBlocking();
        responseIsTheLeast();
        nothingChangesThem();
        Check.end();
    }

    private static void noneBeforeSealing() {
        CeilingDispatch x = new CeilingDispatch();
        x.declare(0, 3, 4, 50);
        Check.equal("blocking before sealing", x.blocking(0), CeilingDispatch.NONE);
        Check.equal("response before sealing", x.response(0), CeilingDispatch.NONE);
        x.seal();
        Check.equal("blocking of one alone", x.blocking(0), 0);
        for (int task : new int[] {-1, 1, 7, 8, Integer.MIN_VALUE, Integer.MAX_VALUE}) {
            Check.equal("blocking of no task", x.blocking(task), CeilingDispatch.NONE);
            Check.equal("response of no task", x.response(task), CeilingDispatch.NONE);
        }
    }

    private static void blockingByLesserBaseAlone() {
        CeilingDispatch x = new CeilingDispatch();
        x.declare(0, 4, 1, 200);
        x.declare(1, 4, 1, 200);
        x.declare(2, 5, 1, 200);
        x.declare(3, 3, 1, 200);
        x.mayUse(0, 0, 40);
        x.mayUse(1, 0, 30);
        x.mayUse(2, 0, 50);
        x.mayUse(3, 0, 6);
        x.seal();
        Check.equal("same and greater bases do not count", x.blocking(0), 6);
        Check.equal("for both", x.blocking(1), 6);
        Check.equal("the longest of the lesser ones", x.blocking(2), 40);
        Check.equal("nobody is less urgent", x.blocking(3), 0);
    }

    private static void blockingByCeilingsHighEnough() {
        CeilingDispatch x = new CeilingDispatch();
        x.declare(0, 1, 1, 200);
        x.declare(1, 5, 1, 200);
        x.declare(2, 6, 1, 200);
        x.declare(3, 4, 1, 200);
        x.mayUse(0, 0, 20);
        x.mayUse(1, 0, 1);
        x.mayUse(0, 1, 9);
        x.mayUse(2, 1, 1);
        x.mayUse(0, 2, 50);
        x.seal();
        Check.equal("a ceiling just as high counts", x.blocking(1), 20);
        Check.equal("a ceiling less high does not", x.blocking(2), 9);
        Check.equal("a ceiling higher counts", x.blocking(3), 20);
    }

    private static void blockingOfWhoUsesNothing() {
        CeilingDispatch x = new CeilingDispatch();
        x.declare(0, 1, 1, 200);
        x.declare(1, 16, 1, 200);
        x.declare(2, 8, 1, 200);
        x.mayUse(0, 3, 7);
        x.mayUse(1, 3, 2);
        x.seal();
        Check.equal("it is kept waiting all the same", x.blocking(2), 7);
    }

    private static void responseAlone() {
        CeilingDispatch x = new CeilingDispatch();
        x.declare(0, 1, 1, 1);
        x.seal();
        Check.equal("cost 1 in period 1", x.response(0), 1);
    }

    private static void responseAtThePeriod() {
        CeilingDispatch x = new CeilingDispatch();
        x.declare(0, 1, 30, 50);
        x.declare(1, 2, 20, 100);
        x.declare(2, 1, 30, 49);
        x.seal();
        Check.equal("more than the period", x.response(0), CeilingDispatch.NONE);
        CeilingDispatch y = new CeilingDispatch();
        y.declare(0, 1, 30, 50);
        y.declare(1, 2, 20, 100);
        y.seal();
        Check.equal("just the period", y.response(0), 50);
        CeilingDispatch z = new CeilingDispatch();
        z.declare(0, 1, 30, 49);
        z.declare(1, 2, 20, 100);
        z.seal();
        Check.equal("one more than the period", z.response(0), CeilingDispatch.NONE);
        Check.equal("the other", z.response(1), 20);
    }

    private static void responseCountsPeriodsBegun() {
        CeilingDispatch x = new CeilingDispatch();
        x.declare(0, 1, 5, 100);
        x.declare(1, 2, 2, 7);
        x.seal();
        Check.equal("7 is one period, not two", x.response(0), 7);
        CeilingDispatch y = new CeilingDispatch();
        y.declare(0, 1, 6, 100);
        y.declare(1, 2, 2, 7);
        y.seal();
        Check.equal("8 begins the second", y.response(0), 10);
    }

    private static void responseCountsSameBaseButNotLesser() {
        CeilingDispatch x = new CeilingDispatch();
        x.declare(0, 4, 3, 100);
        x.declare(1, 4, 10, 100);
        x.declare(2, 3, 20, 100);
        x.declare(3, 9, 40, 100);
        x.seal();
        Check.equal("same base and greater", x.response(0), 53);
        Check.equal("the same for the other", x.response(1), 53);
        Check.equal("all", x.response(2), 73);
        Check.equal("itself alone", x.response(3), 40);
    }

    private static void responseWithBlocking() {
        CeilingDispatch x = new CeilingDispatch();
        x.declare(0, 1, 3, 60);
        x.declare(1, 2, 4, 60);
        x.mayUse(0, 0, 50);
        x.mayUse(1, 0, 1);
        x.seal();
        Check.equal("cost and blocking", x.response(1), 54);
        Check.equal("no blocking for the least urgent one", x.response(0), 7);
    }

    // 4, 7 and 10 all satisfy it for task 0.
    private static void responseIsTheLeast() {
        CeilingDispatch x = new CeilingDispatch();
        x.declare(0, 1, 1, 100);
        x.declare(1, 2, 3, 4);
        x.seal();
        Check.equal("the least one", x.response(0), 4);
    }

    private static void nothingChangesThem() {
        CeilingDispatch x = new CeilingDispatch();
        x.declare(0, 1, 3, 60);
        x.declare(1, 2, 4, 60);
        x.mayUse(0, 0, 50);
        x.mayUse(1, 0, 1);
        x.seal();
        x.release(0);
        x.take(0);
        x.pass(70);
        Check.equal("blocking while raised", x.blocking(0), 0);
        Check.equal("blocking of the other", x.blocking(1), 50);
        Check.equal("response later", x.response(1), 54);
    }
}
