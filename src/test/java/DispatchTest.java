// Promises 5 to 9: release, take, give, finish, pass.
public final class DispatchTest {
    public static void main(String[] args) {
        Check.runAll(DispatchTest.class);
    }

    // Promise 5: "A dormant task is ready, its priority is its base, it holds nothing: its turn."

    private static void releaseMakesReady() {
        CeilingDispatch x = Scene.idle();
        Check.none("place(3) before", x.place(3));
        x.release(3);
        Check.equal("place(3)", x.place(3), 0);
        Check.equal("priority(3)", x.priority(3), 5);
    }

    private static void releaseAnswersOneFirst() {
        Check.equal("release(3)", Scene.idle().release(3), 1);
    }

    private static void releaseCountsAllTasks() {
        CeilingDispatch x = Scene.idle();
        x.release(3);
        Check.equal("of another", x.release(1), 2);
        x.finish();
        Check.equal("of the same again", x.release(1), 3);
    }

    private static void releaseRefusedIsNotCounted() {
        CeilingDispatch x = Scene.idle();
        x.release(3);
        Check.thrownBy(() -> x.release(3));
        Check.thrownBy(() -> x.release(5));
        Check.thrownBy(() -> x.release(-1));
        Check.thrownBy(() -> x.release(8));
        Check.equal("release(1)", x.release(1), 2);
    }

    private static void releaseOfAllEight() {
        CeilingDispatch x = new CeilingDispatch();
        for (int task = 0; task < 8; task++) {
            x.declare(task, 16 - task, 1, 1);
        }
        x.seal();
        for (int task = 7; task >= 0; task--) {
            Check.equal("release", x.release(task), 8 - task);
            Check.equal("running()", x.running(), task);
        }
        Check.equal("place(7)", x.place(7), 7);
    }

    private static void releaseAfterHoldingHasTheBaseAndHoldsNothing() {
        CeilingDispatch x = Scene.holding();
        x.give(1);
        x.give(2);
        x.finish();
        x.release(0);
        Check.equal("priority(0)", x.priority(0), 2);
        Check.none("holder(1)", x.holder(1));
        Check.none("holder(2)", x.holder(2));
        Check.same("finish()", Check.thrownBy(x::finish), "nothing");
    }

    // "IllegalStateException when it is not sealed, or the task is ready"

    private static void releaseBeforeSealingIsRefused() {
        Check.refused(Check.STATE, Scene::open, x -> x.release(0));
    }

    private static void releaseOfTheTaskThatRunsIsRefused() {
        Check.refused(Check.STATE, Scene::busy, x -> x.release(1));
    }

    private static void releaseOfATaskThatWaitsIsRefused() {
        Check.refused(Check.STATE, Scene::busy, x -> x.release(2));
    }

    private static void releaseOfATaskThatHoldsIsRefused() {
        Check.refused(Check.STATE, Scene::busy, x -> x.release(0));
    }

    private static void releaseAfterFinishIsFree() {
        Check.accepted(Scene::over, x -> x.release(0));
    }

    // "IllegalArgumentException when it is not declared."

    private static void releaseOfATaskNotDeclaredIsRefused() {
        Check.refused(Check.ARGUMENT, Scene::idle, x -> x.release(5));
        Check.refused(Check.ARGUMENT, Scene::busy, x -> x.release(7));
    }

    private static void releaseOfNoSuchTaskIsRefused() {
        Check.refused(Check.ARGUMENT, Scene::busy, x -> x.release(-1));
        Check.refused(Check.ARGUMENT, Scene::busy, x -> x.release(8));
        Check.refused(Check.ARGUMENT, Scene::busy, x -> x.release(Scene.LEAST));
        Check.refused(Check.ARGUMENT, Scene::busy, x -> x.release(Scene.MOST));
    }

    private static void releaseOfNoTaskBeforeSealingNamesStateFirst() {
        Check.refused(Check.STATE, Scene::open, x -> x.release(5));
        Check.refused(Check.STATE, Scene::open, x -> x.release(-1));
        Check.refused(Check.STATE, Scene::open, x -> x.release(8));
        Check.refused(Check.STATE, CeilingDispatch::new, x -> x.release(0));
    }

    // Promise 6: "The task that runs takes a thing: its priority is the ceiling from then on, if that is more.
    // Answers the priority."

    private static void takeOfAGreaterCeilingRaises() {
        CeilingDispatch x = Scene.one();
        Check.equal("take(0)", x.take(0), 9);
        Check.equal("priority(0)", x.priority(0), 9);
        Check.equal("holder(0)", x.holder(0), 0);
    }

    private static void takeOfACeilingAsThePriorityRaisesNothing() {
        CeilingDispatch x = Scene.one();
        Check.equal("take(2)", x.take(2), 2);
        Check.equal("priority(0)", x.priority(0), 2);
        Check.equal("holder(2)", x.holder(2), 0);
    }

    private static void takeOfALesserCeilingLowersNothing() {
        CeilingDispatch x = Scene.one();
        x.take(0);
        Check.equal("take(1)", x.take(1), 9);
        Check.equal("take(2)", x.take(2), 9);
        Check.equal("priority(0)", x.priority(0), 9);
    }

    private static void takeOfAllSixThings() {
        CeilingDispatch x = new CeilingDispatch();
        x.declare(0, 1, 1, 1);
        for (int thing = 0; thing < 6; thing++) {
            x.declare(thing + 1, thing + 2, 1, 1);
            x.mayUse(0, thing, 1);
            x.mayUse(thing + 1, thing, 1);
        }
        x.seal();
        x.release(0);
        for (int thing = 0; thing < 6; thing++) {
            Check.equal("take", x.take(thing), thing + 2);
        }
        for (int thing = 5; thing >= 0; thing--) {
            Check.equal("holder", x.holder(thing), 0);
            Check.equal("give", x.give(thing), thing + 1);
            Check.none("holder after", x.holder(thing));
        }
        Check.equal("finish()", x.finish(), 0);
    }

    private static void takeAgainAfterGiving() {
        CeilingDispatch x = Scene.one();
        x.take(0);
        x.give(0);
        Check.equal("take(0)", x.take(0), 9);
    }

    private static void takeOfWhatAnotherGaveBack() {
        CeilingDispatch x = Scene.one();
        x.take(0);
        x.release(1);
        x.give(0);
        Check.equal("take(0)", x.take(0), 9);
        Check.equal("holder(0)", x.holder(0), 1);
    }

    private static void takeRaisesTheTaskThatRunsAlone() {
        CeilingDispatch x = Scene.busy();
        Check.equal("priority(1)", x.priority(1), 9);
        Check.equal("priority(0)", x.priority(0), 5);
        Check.equal("priority(2)", x.priority(2), 5);
        Check.equal("priority(3)", x.priority(3), 5);
    }

    private static void nobodyFindsAThingTaken() {
        CeilingDispatch x = Scene.one();
        x.take(0);
        x.release(1);
        Check.equal("running()", x.running(), 0);
        x.give(0);
        Check.equal("running() after", x.running(), 1);
        Check.same("take(0)", Check.thrownBy(() -> x.take(0)), "nothing");
    }

    // "IllegalStateException when it is not sealed or no task runs, or a task holds the thing"

    private static void takeBeforeSealingIsRefused() {
        Check.refused(Check.STATE, Scene::open, x -> x.take(0));
    }

    private static void takeWhenNoTaskRunsIsRefused() {
        Check.refused(Check.STATE, Scene::idle, x -> x.take(0));
        Check.refused(Check.STATE, Scene::over, x -> x.take(0));
    }

    private static void takeOfAThingThatItHoldsIsRefused() {
        Check.refused(Check.STATE, Scene::holding, x -> x.take(1));
        Check.refused(Check.STATE, Scene::holding, x -> x.take(2));
    }

    private static void takeOfAThingThatAnotherHoldsIsRefused() {
        Check.refused(Check.STATE, Scene::busy, x -> x.take(2));
    }

    // "IllegalArgumentException when the task that runs may not use it or there is no such thing."

    private static void takeOfWhatOnlyAnotherMayUseIsRefused() {
        Check.refused(Check.ARGUMENT, () -> {
            CeilingDispatch x = Scene.idle();
            x.release(3);
            return x;
        }, x -> x.take(1));
    }

    private static void takeOfWhatOnlyATaskThatWaitsMayUseIsRefused() {
        Check.refused(Check.ARGUMENT, () -> {
            CeilingDispatch x = Scene.one();
            x.release(2);
            return x;
        }, x -> x.take(0));
    }

    private static void takeOfWhatNobodyMayUseIsRefused() {
        Check.refused(Check.ARGUMENT, Scene::busy, x -> x.take(3));
        Check.refused(Check.ARGUMENT, Scene::busy, x -> x.take(5));
    }

    private static void takeOfNoSuchThingIsRefused() {
        Check.refused(Check.ARGUMENT, Scene::busy, x -> x.take(-1));
        Check.refused(Check.ARGUMENT, Scene::busy, x -> x.take(6));
        Check.refused(Check.ARGUMENT, Scene::busy, x -> x.take(Scene.LEAST));
        Check.refused(Check.ARGUMENT, Scene::busy, x -> x.take(Scene.MOST));
    }

    private static void takeOfNoSuchThingBeforeSealingNamesStateFirst() {
        Check.refused(Check.STATE, Scene::open, x -> x.take(-1));
        Check.refused(Check.STATE, Scene::open, x -> x.take(6));
        Check.refused(Check.STATE, CeilingDispatch::new, x -> x.take(0));
    }

    private static void takeOfNoSuchThingWhenNoTaskRunsNamesStateFirst() {
        Check.refused(Check.STATE, Scene::idle, x -> x.take(-1));
        Check.refused(Check.STATE, Scene::idle, x -> x.take(6));
        Check.refused(Check.STATE, Scene::idle, x -> x.take(3));
    }

    // Task 1 may not use thing 1, and task 0 holds it.
    private static void takeOfAHeldThingThatItMayNotUseNamesStateFirst() {
        Check.refused(Check.STATE, Scene::busy, x -> x.take(1));
    }

    // Promise 7: "The task that runs gives a thing back: its priority is again what it was when it took it.
    // Answers that."

    private static void giveGoesBackToTheBase() {
        CeilingDispatch x = Scene.one();
        x.take(0);
        Check.equal("give(0)", x.give(0), 2);
        Check.equal("priority(0)", x.priority(0), 2);
        Check.none("holder(0)", x.holder(0));
    }

    private static void giveGoesBackToWhatWasRaisedBefore() {
        CeilingDispatch x = Scene.holding();
        x.take(0);
        Check.equal("give(0)", x.give(0), 5);
        Check.equal("priority(0)", x.priority(0), 5);
        Check.equal("give(1)", x.give(1), 2);
        Check.equal("give(2)", x.give(2), 2);
    }

    private static void giveOfALesserCeilingLeavesThePriority() {
        CeilingDispatch x = Scene.one();
        x.take(0);
        x.take(1);
        Check.equal("give(1)", x.give(1), 9);
        Check.equal("priority(0)", x.priority(0), 9);
        Check.equal("give(0)", x.give(0), 2);
    }

    private static void giveAnswersTheGiversPriority() {
        CeilingDispatch x = Scene.holding();
        x.take(0);
        x.release(1);
        Check.equal("give(0)", x.give(0), 5);
        Check.equal("another runs", x.running(), 1);
        Check.equal("priority(0)", x.priority(0), 5);
    }

    private static void giveGoesOnAfterAnotherRan() {
        CeilingDispatch x = Scene.busy();
        Check.equal("give(0) of task 1", x.give(0), 9);
        x.finish();
        Check.equal("running()", x.running(), 0);
        Check.equal("give(1) of task 0", x.give(1), 2);
    }

    // "IllegalStateException when no task runs"

    private static void giveBeforeSealingIsRefused() {
        Check.refused(Check.STATE, Scene::open, x -> x.give(0));
        Check.refused(Check.STATE, CeilingDispatch::new, x -> x.give(0));
    }

    private static void giveWhenNoTaskRunsIsRefused() {
        Check.refused(Check.STATE, Scene::idle, x -> x.give(0));
        Check.refused(Check.STATE, Scene::over, x -> x.give(0));
    }

    private static void giveOfNoSuchThingWhenNoTaskRunsNamesStateFirst() {
        Check.refused(Check.STATE, Scene::idle, x -> x.give(-1));
        Check.refused(Check.STATE, Scene::idle, x -> x.give(6));
    }

    // "IllegalArgumentException when the thing is not the one that it took last of those it holds."

    private static void giveOfTheThingTakenFirstIsRefused() {
        Check.refused(Check.ARGUMENT, Scene::holding, x -> x.give(2));
    }

    private static void giveByOneThatHoldsNothingIsRefused() {
        for (int thing = -1; thing <= 6; thing++) {
            int it = thing;
            Check.refused(Check.ARGUMENT, Scene::one, x -> x.give(it));
        }
    }

    private static void giveOfWhatItDoesNotHoldIsRefused() {
        Check.refused(Check.ARGUMENT, Scene::holding, x -> x.give(0));
        Check.refused(Check.ARGUMENT, Scene::holding, x -> x.give(5));
    }

    // Thing 1 was the last of all that was taken but for thing 0, and task 0 holds it.
    private static void giveOfWhatAnotherHoldsIsRefused() {
        Check.refused(Check.ARGUMENT, Scene::busy, x -> x.give(1));
        Check.refused(Check.ARGUMENT, Scene::busy, x -> x.give(2));
    }

    private static void giveOfWhatAnotherTookLastIsRefused() {
        Check.refused(Check.ARGUMENT, () -> {
            CeilingDispatch x = Scene.holding();
            x.release(1);
            return x;
        }, x -> x.give(1));
    }

    private static void giveTwiceIsRefused() {
        Check.refused(Check.ARGUMENT, () -> {
            CeilingDispatch x = Scene.holding();
            x.give(1);
            return x;
        }, x -> x.give(1));
    }

    private static void giveOfNoSuchThingIsRefused() {
        Check.refused(Check.ARGUMENT, Scene::busy, x -> x.give(-1));
        Check.refused(Check.ARGUMENT, Scene::busy, x -> x.give(6));
        Check.refused(Check.ARGUMENT, Scene::busy, x -> x.give(Scene.LEAST));
        Check.refused(Check.ARGUMENT, Scene::busy, x -> x.give(Scene.MOST));
    }

    // Promise 8: "The task that runs is dormant: its work."

    private static void finishMakesDormant() {
        CeilingDispatch x = Scene.one();
        x.finish();
        Check.none("place(0)", x.place(0));
        Check.equal("priority(0)", x.priority(0), 2);
        Check.none("running()", x.running());
    }

    private static void finishAnswersTheWork() {
        CeilingDispatch x = Scene.one();
        x.pass(4);
        x.release(1);
        x.pass(6);
        Check.equal("of the more urgent one", x.finish(), 6);
        x.pass(1);
        Check.equal("in two pieces", x.finish(), 5);
    }

    private static void finishWithoutWorkAnswersZero() {
        Check.equal("finish()", Scene.one().finish(), 0);
    }

    private static void finishAnswersTheWorkSinceTheReleaseAlone() {
        CeilingDispatch x = Scene.over();
        x.release(0);
        x.pass(8);
        Check.equal("finish()", x.finish(), 8);
    }

    private static void finishBeforeOrBeyondTheCostIsFree() {
        CeilingDispatch x = Scene.one();
        x.pass(100);
        Check.equal("finish()", x.finish(), 100);
    }

    // "IllegalStateException when no task runs, or it holds something."

    private static void finishBeforeSealingIsRefused() {
        Check.refused(Check.STATE, Scene::open, CeilingDispatch::finish);
        Check.refused(Check.STATE, CeilingDispatch::new, CeilingDispatch::finish);
    }

    private static void finishWhenNoTaskRunsIsRefused() {
        Check.refused(Check.STATE, Scene::idle, CeilingDispatch::finish);
        Check.refused(Check.STATE, Scene::over, CeilingDispatch::finish);
    }

    private static void finishOfOneThatHoldsIsRefused() {
        Check.refused(Check.STATE, Scene::busy, CeilingDispatch::finish);
        Check.refused(Check.STATE, Scene::holding, CeilingDispatch::finish);
    }

    private static void finishOfOneThatHoldsThing0IsRefused() {
        Check.refused(Check.STATE, () -> {
            CeilingDispatch x = Scene.one();
            x.take(0);
            return x;
        }, CeilingDispatch::finish);
    }

    private static void finishOfOneThatHoldsWithoutBeingRaisedIsRefused() {
        Check.refused(Check.STATE, () -> {
            CeilingDispatch x = Scene.holding();
            x.give(1);
            return x;
        }, CeilingDispatch::finish);
    }

    private static void finishWhenAnotherHoldsIsFree() {
        CeilingDispatch x = Scene.holding();
        x.release(1);
        Check.equal("finish()", x.finish(), 0);
        Check.equal("holder(1)", x.holder(1), 0);
        Check.equal("priority(0)", x.priority(0), 5);
    }

    // Promise 9: "The clock goes on by n: what it shows then."

    private static void passOf0() {
        CeilingDispatch x = Scene.one();
        x.pass(5);
        Check.equal("pass(0)", x.pass(0), 5);
        Check.equal("work", x.spent(0, 0), 5);
    }

    private static void passOf1() {
        Check.equal("pass(1)", Scene.one().pass(1), 1);
    }

    private static void passOf100() {
        CeilingDispatch x = Scene.one();
        Check.equal("pass(100)", x.pass(100), 100);
        Check.equal("pass(100)", x.pass(100), 200);
        Check.equal("work", x.spent(0, 0), 200);
    }

    private static void passBeforeSealing() {
        CeilingDispatch x = new CeilingDispatch();
        Check.equal("pass(7)", x.pass(7), 7);
        x.seal();
        Check.equal("pass(3)", x.pass(3), 10);
    }

    private static void passOfAllThat512CallsCan() {
        CeilingDispatch x = new CeilingDispatch();
        for (int i = 0; i < 511; i++) {
            x.pass(100);
        }
        Check.equal("pass(100)", x.pass(100), 51200);
    }

    // "IllegalArgumentException when n is not 0 .. 100."

    private static void passBelow0IsRefused() {
        Check.refused(Check.ARGUMENT, Scene::busy, x -> x.pass(-1));
        Check.refused(Check.ARGUMENT, Scene::busy, x -> x.pass(Scene.LEAST));
        Check.refused(Check.ARGUMENT, Scene::open, x -> x.pass(-1));
    }

    private static void passAbove100IsRefused() {
        Check.refused(Check.ARGUMENT, Scene::busy, x -> x.pass(101));
        Check.refused(Check.ARGUMENT, Scene::busy, x -> x.pass(Scene.MOST));
        Check.refused(Check.ARGUMENT, Scene::open, x -> x.pass(101));
    }
}
