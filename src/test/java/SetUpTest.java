// Promises 1 to 4: a new object, declare, mayUse, seal.
public final class SetUpTest {
    public static void main(String[] args) {
        Check.runAll(SetUpTest.class);
    }

    // Promise 1: "Nothing is declared, it is not sealed, no notes; the clock shows 0."

    private static void newHasNothingDeclared() {
        CeilingDispatch x = new CeilingDispatch();
        for (int task = -1; task <= 8; task++) {
            Check.none("priority", x.priority(task));
            Check.none("place", x.place(task));
            Check.equal("work", x.spent(task, 0), 0);
            Check.equal("delay", x.spent(task, 1), 0);
        }
        Check.equal("seal()", x.seal(), 0);
        for (int task = -1; task <= 8; task++) {
            Check.none("blocking", x.blocking(task));
            Check.none("response", x.response(task));
        }
    }

    private static void newMayUseNothing() {
        for (int task = 0; task < 8; task++) {
            int it = task;
            Check.refused(Check.ARGUMENT, CeilingDispatch::new, x -> x.mayUse(it, 0, 1));
        }
    }

    private static void newIsNotSealed() {
        CeilingDispatch x = new CeilingDispatch();
        for (int thing = -1; thing <= 6; thing++) {
            Check.none("ceiling", x.ceiling(thing));
        }
        Check.accepted(CeilingDispatch::new, y -> y.declare(0, 1, 1, 1));
        Check.accepted(CeilingDispatch::new, CeilingDispatch::seal);
    }

    private static void newHasNoNotes() {
        CeilingDispatch x = new CeilingDispatch();
        Check.equal("notes()", x.notes(), 0);
        Check.none("note(0)", x.note(0));
        Check.none("note(39)", x.note(39));
    }

    private static void newClockShowsZero() {
        Check.equal("pass(0)", new CeilingDispatch().pass(0), 0);
    }

    private static void newRunsAndHoldsNothing() {
        CeilingDispatch x = new CeilingDispatch();
        Check.none("running()", x.running());
        for (int thing = -1; thing <= 6; thing++) {
            Check.none("holder", x.holder(thing));
        }
    }

    private static void newIsNotTouchedByAnother() {
        Scene.busy();
        newHasNothingDeclared();
        newHasNoNotes();
        newClockShowsZero();
        newRunsAndHoldsNothing();
    }

    // Promise 2: "Declares a task."

    private static void declareGivesBaseCostAndPeriod() {
        CeilingDispatch x = new CeilingDispatch();
        x.declare(3, 5, 20, 70);
        x.declare(4, 6, 11, 30);
        Check.equal("base", x.priority(3), 5);
        Check.equal("base of the other", x.priority(4), 6);
        x.seal();
        Check.equal("cost 20, and 11 in each period of 30", x.response(3), 42);
        Check.equal("cost of the other", x.response(4), 11);
    }

    private static void declareOfOneDeclaresNoOther() {
        CeilingDispatch x = new CeilingDispatch();
        x.declare(3, 5, 6, 70);
        for (int task = 0; task < 8; task++) {
            Check.equal("priority", x.priority(task), task == 3 ? 5 : CeilingDispatch.NONE);
        }
    }

    private static void declareTakesABaseTwice() {
        CeilingDispatch x = new CeilingDispatch();
        x.declare(3, 5, 6, 70);
        x.declare(4, 5, 6, 70);
        Check.equal("seal()", x.seal(), 2);
    }

    private static void declareTakesACostOverThePeriod() {
        CeilingDispatch x = new CeilingDispatch();
        x.declare(3, 5, 50, 1);
        Check.equal("seal()", x.seal(), 1);
    }

    // "IllegalStateException when it is sealed or the task is declared"

    private static void declareWhenSealedIsRefused() {
        Check.refused(Check.STATE, Scene::idle, x -> x.declare(5, 1, 1, 1));
    }

    private static void declareOfNothingWhenSealedIsRefused() {
        Check.refused(Check.STATE, () -> {
            CeilingDispatch x = new CeilingDispatch();
            x.seal();
            return x;
        }, x -> x.declare(0, 1, 1, 1));
    }

    private static void declareWhenTasksRunIsRefused() {
        Check.refused(Check.STATE, Scene::busy, x -> x.declare(5, 1, 1, 1));
    }

    private static void declareOfADeclaredTaskIsRefused() {
        Check.refused(Check.STATE, Scene::open, x -> x.declare(0, 16, 50, 200));
        Check.refused(Check.STATE, Scene::open, x -> x.declare(4, 1, 1, 1));
    }

    private static void declareAgainAsBeforeIsRefused() {
        Check.refused(Check.STATE, Scene::open, x -> x.declare(0, 2, 3, 50));
    }

    // "IllegalArgumentException when there is no such number"

    private static void declareOfTask0() {
        CeilingDispatch x = new CeilingDispatch();
        x.declare(0, 4, 1, 1);
        Check.equal("priority(0)", x.priority(0), 4);
    }

    private static void declareOfTask7() {
        CeilingDispatch x = new CeilingDispatch();
        x.declare(7, 4, 1, 1);
        Check.equal("priority(7)", x.priority(7), 4);
    }

    private static void declareOfTaskBelow0IsRefused() {
        Check.refused(Check.ARGUMENT, Scene::open, x -> x.declare(-1, 1, 1, 1));
        Check.refused(Check.ARGUMENT, Scene::open, x -> x.declare(Scene.LEAST, 1, 1, 1));
    }

    private static void declareOfTaskAbove7IsRefused() {
        Check.refused(Check.ARGUMENT, Scene::open, x -> x.declare(8, 1, 1, 1));
        Check.refused(Check.ARGUMENT, Scene::open, x -> x.declare(Scene.MOST, 1, 1, 1));
    }

    // "or base is not 1 .. 16"

    private static void declareOfBase1() {
        CeilingDispatch x = new CeilingDispatch();
        x.declare(5, 1, 1, 1);
        Check.equal("priority", x.priority(5), 1);
    }

    private static void declareOfBase16() {
        CeilingDispatch x = new CeilingDispatch();
        x.declare(5, 16, 1, 1);
        Check.equal("priority", x.priority(5), 16);
    }

    private static void declareOfBaseBelow1IsRefused() {
        Check.refused(Check.ARGUMENT, Scene::open, x -> x.declare(5, 0, 1, 1));
        Check.refused(Check.ARGUMENT, Scene::open, x -> x.declare(5, -1, 1, 1));
        Check.refused(Check.ARGUMENT, Scene::open, x -> x.declare(5, Scene.LEAST, 1, 1));
    }

    private static void declareOfBaseAbove16IsRefused() {
        Check.refused(Check.ARGUMENT, Scene::open, x -> x.declare(5, 17, 1, 1));
        Check.refused(Check.ARGUMENT, Scene::open, x -> x.declare(5, Scene.MOST, 1, 1));
    }

    // "cost not 1 .. 50"

    private static void declareOfCost1() {
        CeilingDispatch x = new CeilingDispatch();
        x.declare(5, 1, 1, 200);
        x.seal();
        Check.equal("response", x.response(5), 1);
    }

    private static void declareOfCost50() {
        CeilingDispatch x = new CeilingDispatch();
        x.declare(5, 1, 50, 200);
        x.seal();
        Check.equal("response", x.response(5), 50);
    }

    private static void declareOfCostBelow1IsRefused() {
        Check.refused(Check.ARGUMENT, Scene::open, x -> x.declare(5, 1, 0, 1));
        Check.refused(Check.ARGUMENT, Scene::open, x -> x.declare(5, 1, Scene.LEAST, 1));
    }

    private static void declareOfCostAbove50IsRefused() {
        Check.refused(Check.ARGUMENT, Scene::open, x -> x.declare(5, 1, 51, 200));
        Check.refused(Check.ARGUMENT, Scene::open, x -> x.declare(5, 1, Scene.MOST, 200));
    }

    // "or period not 1 .. 200"

    private static void declareOfPeriod1() {
        CeilingDispatch x = new CeilingDispatch();
        x.declare(5, 1, 1, 1);
        x.seal();
        Check.equal("response", x.response(5), 1);
    }

    private static void declareOfPeriod200() {
        Check.equal("response", responseOfFourOfCost50(200), 200);
    }

    private static void declareOfPeriod199IsNot200() {
        Check.none("response", responseOfFourOfCost50(199));
    }

    private static int responseOfFourOfCost50(int period) {
        CeilingDispatch x = new CeilingDispatch();
        for (int task = 0; task < 3; task++) {
            x.declare(task, 9, 50, 200);
        }
        x.declare(5, 1, 50, period);
        x.seal();
        return x.response(5);
    }

    private static void declareOfPeriodBelow1IsRefused() {
        Check.refused(Check.ARGUMENT, Scene::open, x -> x.declare(5, 1, 1, 0));
        Check.refused(Check.ARGUMENT, Scene::open, x -> x.declare(5, 1, 1, Scene.LEAST));
    }

    private static void declareOfPeriodAbove200IsRefused() {
        Check.refused(Check.ARGUMENT, Scene::open, x -> x.declare(5, 1, 1, 201));
        Check.refused(Check.ARGUMENT, Scene::open, x -> x.declare(5, 1, 1, Scene.MOST));
    }

    // "where two exceptions would do, the one named first is thrown"

    private static void declareOfADeclaredTaskWithWrongNumbersNamesStateFirst() {
        Check.refused(Check.STATE, Scene::open, x -> x.declare(0, 0, 1, 1));
        Check.refused(Check.STATE, Scene::open, x -> x.declare(0, 17, 1, 1));
        Check.refused(Check.STATE, Scene::open, x -> x.declare(0, 1, 0, 1));
        Check.refused(Check.STATE, Scene::open, x -> x.declare(0, 1, 51, 1));
        Check.refused(Check.STATE, Scene::open, x -> x.declare(0, 1, 1, 0));
        Check.refused(Check.STATE, Scene::open, x -> x.declare(0, 1, 1, 201));
    }

    private static void declareOfWrongNumbersWhenSealedNamesStateFirst() {
        Check.refused(Check.STATE, Scene::idle, x -> x.declare(-1, 1, 1, 1));
        Check.refused(Check.STATE, Scene::idle, x -> x.declare(8, 1, 1, 1));
        Check.refused(Check.STATE, Scene::idle, x -> x.declare(5, 0, 1, 1));
        Check.refused(Check.STATE, Scene::idle, x -> x.declare(5, 1, 51, 1));
        Check.refused(Check.STATE, Scene::idle, x -> x.declare(5, 1, 1, 201));
    }

    private static void declareAfterARefusedOneIsFree() {
        CeilingDispatch x = new CeilingDispatch();
        Check.same("base 17", Check.thrownBy(() -> x.declare(2, 17, 4, 20)), Check.ARGUMENT);
        Check.same("cost 51", Check.thrownBy(() -> x.declare(2, 3, 51, 20)), Check.ARGUMENT);
        Check.same("period 201", Check.thrownBy(() -> x.declare(2, 3, 4, 201)), Check.ARGUMENT);
        Check.none("not declared", x.priority(2));
        Check.same("a right one", Check.thrownBy(() -> x.declare(2, 6, 7, 8)), "nothing");
        Check.equal("its base", x.priority(2), 6);
        x.seal();
        Check.equal("its cost", x.response(2), 7);
    }

    // Promise 3: "A task may use a thing, for a length (in place of what was told before)."

    // Task 0 of base 2 may use a thing that task 1 of base 3 may use too, for what was told last.
    private static int blockingAfter(int thing, int... lengths) {
        CeilingDispatch x = new CeilingDispatch();
        x.declare(0, 2, 1, 200);
        x.declare(1, 3, 1, 200);
        x.mayUse(1, thing, 9);
        for (int length : lengths) {
            x.mayUse(0, thing, length);
        }
        x.seal();
        return x.blocking(1);
    }

    private static void mayUseMakesAUser() {
        CeilingDispatch x = Scene.idle();
        x.release(2);
        Check.equal("take(1)", x.take(1), 5);
    }

    private static void mayUseOfOneThingIsOfNoOther() {
        Check.refused(Check.ARGUMENT, () -> {
            CeilingDispatch x = Scene.idle();
            x.release(2);
            return x;
        }, x -> x.take(0));
    }

    private static void mayUseInPlaceOfALongerLength() {
        Check.equal("blocking", blockingAfter(4, 30, 20), 20);
    }

    private static void mayUseInPlaceOfAShorterLength() {
        Check.equal("blocking", blockingAfter(4, 20, 30), 30);
    }

    private static void mayUseInPlaceOfTheSameLength() {
        Check.equal("blocking", blockingAfter(4, 20, 20), 20);
    }

    private static void mayUseTwoThings() {
        CeilingDispatch x = new CeilingDispatch();
        x.declare(0, 2, 1, 200);
        x.mayUse(0, 1, 5);
        x.mayUse(0, 3, 6);
        x.seal();
        Check.equal("ceiling(1)", x.ceiling(1), 2);
        Check.equal("ceiling(3)", x.ceiling(3), 2);
    }

    private static void mayUseChangesNoOtherUser() {
        CeilingDispatch x = new CeilingDispatch();
        x.declare(0, 2, 1, 200);
        x.declare(1, 3, 1, 200);
        x.declare(2, 4, 1, 200);
        x.mayUse(0, 4, 30);
        x.mayUse(1, 4, 9);
        x.mayUse(2, 4, 1);
        x.seal();
        Check.equal("the length of task 0 stays", x.blocking(2), 30);
    }

    // "IllegalStateException when it is sealed"

    private static void mayUseWhenSealedIsRefused() {
        Check.refused(Check.STATE, Scene::idle, x -> x.mayUse(1, 3, 1));
        Check.refused(Check.STATE, Scene::busy, x -> x.mayUse(1, 3, 1));
    }

    private static void mayUseInPlaceOfALengthWhenSealedIsRefused() {
        Check.refused(Check.STATE, Scene::idle, x -> x.mayUse(0, 0, 8));
    }

    // "IllegalArgumentException when the task is not declared"

    private static void mayUseOfATaskNotDeclaredIsRefused() {
        Check.refused(Check.ARGUMENT, Scene::open, x -> x.mayUse(5, 0, 50));
        Check.refused(Check.ARGUMENT, Scene::open, x -> x.mayUse(7, 0, 50));
    }

    private static void mayUseOfNoSuchTaskIsRefused() {
        Check.refused(Check.ARGUMENT, Scene::open, x -> x.mayUse(-1, 0, 50));
        Check.refused(Check.ARGUMENT, Scene::open, x -> x.mayUse(8, 0, 50));
        Check.refused(Check.ARGUMENT, Scene::open, x -> x.mayUse(Scene.LEAST, 0, 50));
        Check.refused(Check.ARGUMENT, Scene::open, x -> x.mayUse(Scene.MOST, 0, 50));
    }

    private static void mayUseRefusedGrantsNothingToATaskDeclaredLater() {
        CeilingDispatch x = Scene.open();
        Check.same("too early", Check.thrownBy(() -> x.mayUse(5, 3, 1)), Check.ARGUMENT);
        x.declare(5, 7, 1, 1);
        x.seal();
        Check.equal("ceiling(3)", x.ceiling(3), 0);
    }

    private static void mayUseOfTask7() {
        CeilingDispatch x = new CeilingDispatch();
        x.declare(7, 11, 1, 1);
        x.mayUse(7, 2, 1);
        x.seal();
        Check.equal("ceiling(2)", x.ceiling(2), 11);
    }

    // "there is no such thing"

    private static void mayUseOfThing0() {
        Check.equal("blocking", blockingAfter(0, 8), 8);
    }

    private static void mayUseOfThing5() {
        Check.equal("blocking", blockingAfter(5, 8), 8);
    }

    private static void mayUseOfThingBelow0IsRefused() {
        Check.refused(Check.ARGUMENT, Scene::open, x -> x.mayUse(0, -1, 50));
        Check.refused(Check.ARGUMENT, Scene::open, x -> x.mayUse(0, Scene.LEAST, 50));
    }

    private static void mayUseOfThingAbove5IsRefused() {
        Check.refused(Check.ARGUMENT, Scene::open, x -> x.mayUse(0, 6, 50));
        Check.refused(Check.ARGUMENT, Scene::open, x -> x.mayUse(0, Scene.MOST, 50));
    }

    // "or length is not 1 .. 50"

    private static void mayUseForLength1() {
        Check.equal("blocking", blockingAfter(4, 1), 1);
    }

    private static void mayUseForLength50() {
        Check.equal("blocking", blockingAfter(4, 50), 50);
    }

    private static void mayUseForLengthBelow1IsRefused() {
        Check.refused(Check.ARGUMENT, Scene::open, x -> x.mayUse(0, 0, 0));
        Check.refused(Check.ARGUMENT, Scene::open, x -> x.mayUse(0, 0, -1));
        Check.refused(Check.ARGUMENT, Scene::open, x -> x.mayUse(0, 0, Scene.LEAST));
    }

    private static void mayUseForLengthAbove50IsRefused() {
        Check.refused(Check.ARGUMENT, Scene::open, x -> x.mayUse(0, 0, 51));
        Check.refused(Check.ARGUMENT, Scene::open, x -> x.mayUse(0, 0, Scene.MOST));
    }

    private static void mayUseRefusedMakesNoUser() {
        Check.refused(Check.ARGUMENT, Scene::open, x -> x.mayUse(1, 3, 51));
        Check.refused(Check.ARGUMENT, Scene::open, x -> x.mayUse(1, 3, 0));
    }

    private static void mayUseOfWrongNumbersWhenSealedNamesStateFirst() {
        Check.refused(Check.STATE, Scene::idle, x -> x.mayUse(5, 0, 1));
        Check.refused(Check.STATE, Scene::idle, x -> x.mayUse(-1, 0, 1));
        Check.refused(Check.STATE, Scene::idle, x -> x.mayUse(8, 0, 1));
        Check.refused(Check.STATE, Scene::idle, x -> x.mayUse(0, -1, 1));
        Check.refused(Check.STATE, Scene::idle, x -> x.mayUse(0, 6, 1));
        Check.refused(Check.STATE, Scene::idle, x -> x.mayUse(0, 0, 0));
        Check.refused(Check.STATE, Scene::idle, x -> x.mayUse(0, 0, 51));
    }

    // Promise 4: "Seals: how many tasks are declared."

    private static int sealedWith(int declared) {
        CeilingDispatch x = new CeilingDispatch();
        for (int task = 0; task < declared; task++) {
            x.declare(7 - task, 1, 1, 1);
        }
        return x.seal();
    }

    private static void sealOfNothing() {
        Check.equal("seal()", sealedWith(0), 0);
    }

    private static void sealOfOne() {
        Check.equal("seal()", sealedWith(1), 1);
    }

    private static void sealOfAllEight() {
        Check.equal("seal()", sealedWith(8), 8);
    }

    private static void sealCountsNoRefusedDeclare() {
        CeilingDispatch x = Scene.open();
        Check.thrownBy(() -> x.declare(0, 1, 1, 1));
        Check.thrownBy(() -> x.declare(8, 1, 1, 1));
        Check.thrownBy(() -> x.declare(5, 17, 1, 1));
        Check.equal("seal()", x.seal(), 5);
    }

    private static void sealMakesNoNoteAndReleasesNothing() {
        CeilingDispatch x = Scene.open();
        x.seal();
        Check.equal("notes()", x.notes(), 0);
        Check.none("running()", x.running());
        Check.none("place(0)", x.place(0));
    }

    // "IllegalStateException when it is sealed."

    private static void sealAgainIsRefused() {
        Check.refused(Check.STATE, Scene::idle, CeilingDispatch::seal);
    }

    private static void sealOfNothingAgainIsRefused() {
        Check.refused(Check.STATE, () -> {
            CeilingDispatch x = new CeilingDispatch();
            x.seal();
            return x;
        }, CeilingDispatch::seal);
    }

    private static void sealWhenTasksRunIsRefused() {
        Check.refused(Check.STATE, Scene::busy, CeilingDispatch::seal);
    }
}
