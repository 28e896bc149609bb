// Promises 10 to 15: running, priority, place, ceiling, holder, spent.
public final class QuestionsTest {
    private static final int[] NO_TASKS = {-1, 5, 6, 7, 8, Scene.LEAST, Scene.MOST};
    private static final int[] NO_THINGS = {-1, 6, Scene.LEAST, Scene.MOST};

    public static void main(String[] args) {
        Check.runAll(QuestionsTest.class);
    }

    // Promise 10: "The task that runs; NONE if none does."

    private static void runningIsTheTaskThatRuns() {
        Check.equal("running()", Scene.one().running(), 0);
        Check.equal("running()", Scene.busy().running(), 1);
    }

    private static void runningOfTask7() {
        Check.equal("running()", Scene.greatestNumbers().running(), 7);
    }

    private static void runningBeforeSealingIsNone() {
        Check.none("running()", Scene.open().running());
    }

    private static void runningBeforeAnyReleaseIsNone() {
        Check.none("running()", Scene.idle().running());
    }

    private static void runningAfterTheLastFinishIsNone() {
        Check.none("running()", Scene.over().running());
    }

    // Promise 11: "The priority of a ready task, the base of a dormant one; NONE when it is not declared."

    private static void priorityOfAReadyTask() {
        CeilingDispatch x = Scene.one();
        Check.equal("not raised", x.priority(0), 2);
        x.take(0);
        Check.equal("raised", x.priority(0), 9);
    }

    private static void priorityOfAReadyTaskThatDoesNotRun() {
        CeilingDispatch x = Scene.busy();
        Check.equal("raised", x.priority(0), 5);
        Check.equal("not raised", x.priority(2), 5);
    }

    private static void priorityOfADormantTask() {
        CeilingDispatch x = Scene.idle();
        Check.equal("never released", x.priority(1), 9);
        Check.equal("finished", Scene.over().priority(1), 9);
    }

    private static void priorityOfADormantTaskThatHadBeenRaised() {
        CeilingDispatch x = Scene.holding();
        x.give(1);
        x.give(2);
        x.finish();
        Check.equal("priority(0)", x.priority(0), 2);
    }

    private static void priorityBeforeSealing() {
        Check.equal("priority(1)", Scene.open().priority(1), 9);
    }

    private static void priorityOfATaskNotDeclaredIsNone() {
        for (int task : NO_TASKS) {
            Check.none("before sealing", Scene.open().priority(task));
            Check.none("priority", Scene.busy().priority(task));
        }
    }

    // Promise 12: "how many others would run before it [..] (those with a greater priority, and those with the
    // same one and a lesser turn). NONE when it is not ready."

    private static void placeOfTheTaskThatRunsIsZero() {
        Check.equal("alone", Scene.one().place(0), 0);
        Check.equal("of many", Scene.busy().place(1), 0);
    }

    private static void placeCountsGreaterPriorities() {
        CeilingDispatch x = Scene.one();
        x.release(2);
        x.release(1);
        Check.equal("place(0)", x.place(0), 2);
        Check.equal("place(2)", x.place(2), 1);
    }

    private static void placeCountsTheSamePriorityOfALesserTurn() {
        CeilingDispatch x = Scene.idle();
        x.release(4);
        x.release(2);
        x.release(3);
        Check.equal("place(4)", x.place(4), 0);
        Check.equal("place(2)", x.place(2), 1);
        Check.equal("place(3)", x.place(3), 2);
    }

    private static void placeIsByPriorityAndNotByBase() {
        CeilingDispatch x = Scene.busy();
        Check.equal("raised to 5, turn 1", x.place(0), 1);
        Check.equal("of base 5, turn 2", x.place(2), 2);
    }

    private static void placeCountsNoDormantTask() {
        CeilingDispatch x = Scene.over();
        x.release(0);
        Check.equal("place(0)", x.place(0), 0);
    }

    // The task of this number is released first, and then the next ones, all of the same base.
    private static CeilingDispatch eightFrom(int first) {
        CeilingDispatch x = new CeilingDispatch();
        for (int task = 0; task < 8; task++) {
            x.declare(task, 3, 1, 1);
        }
        x.seal();
        for (int i = 0; i < 8; i++) {
            x.release((first + i) % 8);
        }
        return x;
    }

    private static void placesOfEight() {
        for (int first = 0; first < 8; first++) {
            CeilingDispatch x = eightFrom(first);
            for (int i = 0; i < 8; i++) {
                Check.equal("place", x.place((first + i) % 8), i);
            }
        }
    }

    private static void placeOfADormantTaskIsNone() {
        Check.none("never released", Scene.busy().place(3));
        Check.none("finished", Scene.over().place(0));
        Check.none("before sealing", Scene.open().place(0));
    }

    private static void placeOfATaskNotDeclaredIsNone() {
        for (int task : NO_TASKS) {
            Check.none("place", Scene.busy().place(task));
        }
    }

    // Promise 13: "The ceiling of a thing; NONE when it is not sealed or there is no such thing."

    private static void ceilingIsTheGreatestBaseOfItsUsers() {
        CeilingDispatch x = Scene.idle();
        Check.equal("ceiling(0)", x.ceiling(0), 9);
        Check.equal("ceiling(1)", x.ceiling(1), 5);
        Check.equal("ceiling(2)", x.ceiling(2), 2);
    }

    private static void ceilingOfAThingThatNobodyMayUseIsZero() {
        CeilingDispatch x = Scene.idle();
        Check.equal("ceiling(3)", x.ceiling(3), 0);
        Check.equal("ceiling(5)", x.ceiling(5), 0);
    }

    private static void ceilingWhenNothingIsDeclaredIsZero() {
        CeilingDispatch x = new CeilingDispatch();
        x.seal();
        for (int thing = 0; thing < 6; thing++) {
            Check.equal("ceiling", x.ceiling(thing), 0);
        }
    }

    private static void ceilingOf1AndOf16() {
        CeilingDispatch x = new CeilingDispatch();
        x.declare(0, 1, 1, 1);
        x.declare(7, 16, 1, 1);
        x.mayUse(0, 0, 1);
        x.mayUse(7, 5, 1);
        x.seal();
        Check.equal("ceiling(0)", x.ceiling(0), 1);
        Check.equal("ceiling(5)", x.ceiling(5), 16);
    }

    private static void ceilingBeforeSealingIsNone() {
        for (int thing = -1; thing <= 6; thing++) {
            Check.none("ceiling", Scene.open().ceiling(thing));
        }
    }

    private static void ceilingOfNoSuchThingIsNone() {
        for (int thing : NO_THINGS) {
            Check.none("ceiling", Scene.idle().ceiling(thing));
        }
    }

    private static void ceilingStaysWhileAThingIsHeld() {
        CeilingDispatch x = Scene.busy();
        Check.equal("ceiling(0)", x.ceiling(0), 9);
        Check.equal("ceiling(1)", x.ceiling(1), 5);
        Check.equal("ceiling(2)", x.ceiling(2), 2);
    }

    // Promise 14: "The task that holds a thing; NONE if none does, or there is no such thing."

    private static void holderOfEachThingHeld() {
        CeilingDispatch x = Scene.busy();
        Check.equal("holder(0)", x.holder(0), 1);
        Check.equal("holder(1)", x.holder(1), 0);
        Check.equal("holder(2)", x.holder(2), 0);
    }

    private static void holderOfThing5() {
        Check.equal("holder(5)", Scene.greatestNumbers().holder(5), 7);
    }

    private static void holderOfAThingNotHeldIsNone() {
        Check.none("never taken", Scene.busy().holder(3));
        Check.none("before sealing", Scene.open().holder(0));
    }

    private static void holderOfAThingGivenBackIsNone() {
        CeilingDispatch x = Scene.holding();
        x.give(1);
        Check.none("holder(1)", x.holder(1));
        Check.equal("holder(2) still", x.holder(2), 0);
    }

    private static void holderOfNoSuchThingIsNone() {
        for (int thing : NO_THINGS) {
            Check.none("holder", Scene.busy().holder(thing));
        }
    }

    // Promise 15: "The work (0) or the delay (1) of a task; 0 when it is not declared, or what is another."

    // Task 1 has worked for 6 and been delayed for 5.
    private static CeilingDispatch spending() {
        CeilingDispatch x = Scene.one();
        x.take(0);
        x.release(1);
        x.pass(5);
        x.give(0);
        x.pass(6);
        return x;
    }

    private static void spentOf0IsTheWork() {
        Check.equal("spent(1, 0)", spending().spent(1, 0), 6);
        Check.equal("spent(0, 0)", spending().spent(0, 0), 5);
    }

    private static void spentOf1IsTheDelay() {
        Check.equal("spent(1, 1)", spending().spent(1, 1), 5);
        Check.equal("spent(0, 1)", spending().spent(0, 1), 0);
    }

    private static void spentOfAnotherWhatIsZero() {
        for (int what : new int[] {-1, 2, 3, Scene.LEAST, Scene.MOST}) {
            Check.equal("spent of " + what, spending().spent(1, what), 0);
        }
    }

    private static void spentOfATaskNotDeclaredIsZero() {
        for (int task : NO_TASKS) {
            Check.equal("work", spending().spent(task, 0), 0);
            Check.equal("delay", spending().spent(task, 1), 0);
            Check.equal("another", spending().spent(task, 2), 0);
        }
    }

    private static void spentOfATaskNeverReleasedIsZero() {
        Check.equal("work", spending().spent(3, 0), 0);
        Check.equal("delay", spending().spent(3, 1), 0);
        Check.equal("before sealing", Scene.open().spent(0, 0), 0);
    }
}
