// Promises 16 and 17: blocking and response, worked out beforehand.
public final class BeforehandTest {
    private static final int[] NO_TASKS = {-1, 5, 6, 7, 8, Scene.LEAST, Scene.MOST};

    public static void main(String[] args) {
        Check.runAll(BeforehandTest.class);
    }

    // Promise 16, and the terms: "the greatest length for which a task of lesser base may use a thing whose ceiling
    // is at least the task's base; 0 if there is none."

    // Task 0 of this base may use thing 0, of ceiling 8 by task 7, for 20; task 1 of base 5 uses nothing.
    private static int blockingOfBase5BesideBase(int base) {
        CeilingDispatch x = new CeilingDispatch();
        x.declare(0, base, 1, 200);
        x.declare(1, 5, 1, 200);
        x.declare(7, 8, 1, 200);
        x.mayUse(0, 0, 20);
        x.mayUse(7, 0, 1);
        x.seal();
        return x.blocking(1);
    }

    private static void blockingByALesserBaseCounts() {
        Check.equal("base 4", blockingOfBase5BesideBase(4), 20);
        Check.equal("base 1", blockingOfBase5BesideBase(1), 20);
    }

    private static void blockingByTheSameBaseDoesNot() {
        Check.equal("base 5", blockingOfBase5BesideBase(5), 0);
    }

    private static void blockingByAGreaterBaseDoesNot() {
        Check.equal("base 6", blockingOfBase5BesideBase(6), 0);
    }

    // Task 0 of base 1 may use thing 0 for 20, whose ceiling is that of task 7, of this base.
    private static int blockingOfBase5ByCeiling(int ceiling) {
        CeilingDispatch x = new CeilingDispatch();
        x.declare(0, 1, 1, 200);
        x.declare(1, 5, 1, 200);
        x.declare(7, ceiling, 1, 200);
        x.mayUse(0, 0, 20);
        x.mayUse(7, 0, 1);
        x.seal();
        return x.blocking(1);
    }

    private static void blockingByAGreaterCeilingCounts() {
        Check.equal("ceiling 6", blockingOfBase5ByCeiling(6), 20);
        Check.equal("ceiling 16", blockingOfBase5ByCeiling(16), 20);
    }

    private static void blockingByACeilingJustAsHighCounts() {
        Check.equal("ceiling 5", blockingOfBase5ByCeiling(5), 20);
    }

    // Task 7 of base 4 is of lesser base too: neither length counts.
    private static void blockingByALesserCeilingDoesNot() {
        Check.equal("ceiling 4", blockingOfBase5ByCeiling(4), 0);
        Check.equal("ceiling 1", blockingOfBase5ByCeiling(1), 0);
    }

    private static void blockingIsTheGreatestOfSeveralTasks() {
        CeilingDispatch x = new CeilingDispatch();
        x.declare(0, 1, 1, 200);
        x.declare(1, 2, 1, 200);
        x.declare(2, 3, 1, 200);
        x.declare(3, 4, 1, 200);
        x.mayUse(0, 0, 11);
        x.mayUse(1, 0, 13);
        x.mayUse(2, 0, 12);
        x.mayUse(3, 0, 50);
        x.seal();
        Check.equal("its own length and their sum do not count", x.blocking(3), 13);
        Check.equal("of the third", x.blocking(2), 13);
        Check.equal("of the second", x.blocking(1), 11);
        Check.equal("of the first", x.blocking(0), 0);
    }

    private static void blockingIsTheGreatestOfSeveralThings() {
        CeilingDispatch x = new CeilingDispatch();
        x.declare(0, 1, 1, 200);
        x.declare(1, 2, 1, 200);
        for (int thing = 0; thing < 6; thing++) {
            x.mayUse(1, thing, 40);
        }
        x.mayUse(0, 0, 5);
        x.mayUse(0, 3, 9);
        x.mayUse(0, 5, 7);
        x.seal();
        Check.equal("blocking(1)", x.blocking(1), 9);
    }

    private static void blockingLeavesOutALongerUseOfALowerCeiling() {
        CeilingDispatch x = Scene.idle();
        Check.equal("of base 9, by thing 0 for 7", x.blocking(1), 7);
        Check.equal("of base 5, by things 0 and 1", x.blocking(2), 7);
        CeilingDispatch y = new CeilingDispatch();
        y.declare(0, 1, 1, 200);
        y.declare(1, 2, 1, 200);
        y.mayUse(0, 0, 50);
        y.mayUse(0, 1, 3);
        y.mayUse(1, 1, 1);
        y.seal();
        Check.equal("thing 0 has ceiling 1", y.blocking(1), 3);
    }

    private static void blockingOfOneThatUsesNothing() {
        Check.equal("of task 3", Scene.idle().blocking(3), 7);
    }

    private static void blockingOfTheLeastUrgentIsZero() {
        Check.equal("blocking(0)", Scene.idle().blocking(0), 0);
    }

    private static void blockingWhereNobodyMayUseAnythingIsZero() {
        CeilingDispatch x = new CeilingDispatch();
        x.declare(0, 1, 1, 200);
        x.declare(1, 16, 1, 200);
        x.seal();
        Check.equal("blocking(1)", x.blocking(1), 0);
    }

    // "NONE when it is not declared or it is not sealed."

    private static void blockingBeforeSealingIsNone() {
        for (int task = -1; task <= 8; task++) {
            Check.none("blocking", Scene.open().blocking(task));
        }
    }

    private static void blockingOfATaskNotDeclaredIsNone() {
        for (int task : NO_TASKS) {
            Check.none("blocking", Scene.idle().blocking(task));
        }
    }

    private static void blockingStaysWhileTasksGoOn() {
        CeilingDispatch x = Scene.busy();
        Check.equal("of one raised", x.blocking(0), 0);
        Check.equal("of one that runs", x.blocking(1), 7);
        Check.equal("of one that waits", x.blocking(2), 7);
    }

    // Promise 17, and the terms: "the least whole number r, from 1 on, that is its cost, and its blocking, and, for
    // each other declared task whose base is at least its own, that one's cost times the number of its periods begun
    // in r (r / period, rounded up), all together"

    private static void responseOfOneAloneIsItsCost() {
        CeilingDispatch x = new CeilingDispatch();
        x.declare(0, 1, 6, 70);
        x.seal();
        Check.equal("response(0)", x.response(0), 6);
    }

    private static void responseOf1IsTheLeastThatCanBe() {
        CeilingDispatch x = new CeilingDispatch();
        x.declare(0, 1, 1, 1);
        x.seal();
        Check.equal("response(0)", x.response(0), 1);
    }

    private static void responseHasTheBlocking() {
        CeilingDispatch x = new CeilingDispatch();
        x.declare(0, 1, 3, 60);
        x.declare(1, 2, 4, 60);
        x.mayUse(0, 0, 50);
        x.mayUse(1, 0, 1);
        x.seal();
        Check.equal("4 and 50", x.response(1), 54);
        Check.equal("3 and 4 without blocking", x.response(0), 7);
    }

    // Task 0 of base 5 and cost 3 beside task 1 of this base and cost 10.
    private static int responseOfBase5BesideBase(int base) {
        CeilingDispatch x = new CeilingDispatch();
        x.declare(0, 5, 3, 100);
        x.declare(1, base, 10, 100);
        x.seal();
        return x.response(0);
    }

    private static void responseCountsAGreaterBase() {
        Check.equal("base 6", responseOfBase5BesideBase(6), 13);
        Check.equal("base 16", responseOfBase5BesideBase(16), 13);
    }

    private static void responseCountsTheSameBase() {
        Check.equal("base 5", responseOfBase5BesideBase(5), 13);
    }

    private static void responseCountsNoLesserBase() {
        Check.equal("base 4", responseOfBase5BesideBase(4), 3);
    }

    private static void responseCountsItselfOnce() {
        CeilingDispatch x = new CeilingDispatch();
        x.declare(0, 5, 30, 40);
        x.declare(1, 5, 5, 200);
        x.seal();
        Check.equal("response(0)", x.response(0), 35);
        Check.equal("of the other", x.response(1), 35);
    }

    private static void responseCountsSevenOthers() {
        CeilingDispatch x = new CeilingDispatch();
        for (int task = 0; task < 8; task++) {
            x.declare(task, 1 + task, 1 + task, 200);
        }
        x.seal();
        Check.equal("response(0)", x.response(0), 36);
        Check.equal("response(7)", x.response(7), 8);
    }

    // Task 0 of this cost beside task 1 of greater base, cost 2, period 7.
    private static int responseBesideTwoOfSeven(int cost) {
        CeilingDispatch x = new CeilingDispatch();
        x.declare(0, 1, cost, 100);
        x.declare(1, 2, 2, 7);
        x.seal();
        return x.response(0);
    }

    private static void responseOfAWholePeriodBeginsNoOther() {
        Check.equal("5 and 2 in 7", responseBesideTwoOfSeven(5), 7);
        Check.equal("10 and 4 in 14", responseBesideTwoOfSeven(10), 14);
    }

    private static void responseBeyondAPeriodBeginsTheNext() {
        Check.equal("6 and 4 in 10", responseBesideTwoOfSeven(6), 10);
    }

    private static void responseWithinAPeriodHasBegunIt() {
        Check.equal("1 and 2 in 3", responseBesideTwoOfSeven(1), 3);
    }

    // A period of 1 is begun r times in r.
    private static void responseBesideAPeriodOf1IsNone() {
        CeilingDispatch x = new CeilingDispatch();
        x.declare(0, 1, 1, 200);
        x.declare(1, 2, 1, 1);
        x.seal();
        Check.none("response(0)", x.response(0));
        Check.equal("response(1)", x.response(1), 1);
    }

    // 4, 7 and 10 are all what they ask for, as 1 and 3 for each 4 begun.
    private static void responseIsTheLeastOfSeveral() {
        CeilingDispatch x = new CeilingDispatch();
        x.declare(0, 1, 1, 100);
        x.declare(1, 2, 3, 4);
        x.seal();
        Check.equal("response(0)", x.response(0), 4);
    }

    // "there is none if that would be more than the task's period"

    // Two tasks: it would be 50.
    private static int responseOf50WithPeriod(int period) {
        CeilingDispatch x = new CeilingDispatch();
        x.declare(0, 1, 30, period);
        x.declare(1, 2, 20, 100);
        x.seal();
        return x.response(0);
    }

    private static void responseLessThanThePeriod() {
        Check.equal("period 51", responseOf50WithPeriod(51), 50);
    }

    private static void responseJustThePeriod() {
        Check.equal("period 50", responseOf50WithPeriod(50), 50);
    }

    private static void responseMoreThanThePeriodIsNone() {
        Check.none("period 49", responseOf50WithPeriod(49));
        Check.none("period 1", responseOf50WithPeriod(1));
    }

    private static void responseOfACostOverThePeriodIsNone() {
        CeilingDispatch x = new CeilingDispatch();
        x.declare(0, 1, 50, 49);
        x.seal();
        Check.none("response(0)", x.response(0));
    }

    // One task of lesser base: it would be 4 and 50.
    private static int responseOf54WithPeriod(int period) {
        CeilingDispatch x = new CeilingDispatch();
        x.declare(0, 1, 3, 60);
        x.declare(1, 2, 4, period);
        x.mayUse(0, 0, 50);
        x.mayUse(1, 0, 1);
        x.seal();
        return x.response(1);
    }

    private static void responseByBlockingJustThePeriod() {
        Check.equal("period 54", responseOf54WithPeriod(54), 54);
    }

    private static void responseByBlockingMoreThanThePeriodIsNone() {
        Check.none("period 53", responseOf54WithPeriod(53));
    }

    private static void responseOfOneIsNoneAndOfAnotherNot() {
        CeilingDispatch x = new CeilingDispatch();
        x.declare(0, 1, 30, 49);
        x.declare(1, 2, 20, 100);
        x.seal();
        Check.none("response(0)", x.response(0));
        Check.equal("response(1)", x.response(1), 20);
    }

    private static void responseOfFullLoadIsNone() {
        CeilingDispatch x = new CeilingDispatch();
        for (int task = 0; task < 8; task++) {
            x.declare(task, 16, 50, 200);
        }
        x.seal();
        for (int task = 0; task < 8; task++) {
            Check.none("response", x.response(task));
        }
    }

    // "NONE when there is none, it is not declared or it is not sealed."

    private static void responseBeforeSealingIsNone() {
        for (int task = -1; task <= 8; task++) {
            Check.none("response", Scene.open().response(task));
        }
    }

    private static void responseOfATaskNotDeclaredIsNone() {
        for (int task : NO_TASKS) {
            Check.none("response", Scene.idle().response(task));
        }
    }

    private static void responseStaysWhileTasksGoOn() {
        CeilingDispatch idle = Scene.idle();
        CeilingDispatch busy = Scene.busy();
        for (int task = 0; task < 5; task++) {
            Check.equal("response", busy.response(task), idle.response(task));
        }
        Check.equal("response(1)", busy.response(1), 9);
        Check.equal("response(0)", busy.response(0), 17);
    }
}
