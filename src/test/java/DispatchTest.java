// Promises 5 to 12, 14 and 15: release, take, give, finish, pass, running, priority, place, holder, spent.
public final class DispatchTest {
    public static void main(String[] args) {
        releaseRefuses();
        turnsCountReleases();
        greaterPriorityRuns();
        lesserTurnRunsAmongEqual();
        takeRaisesToTheCeiling();
        takeNeverLowers();
        takeRefuses();
        takeNamesStateFirst();
        giveRestoresInTurn();
        giveLetsAnotherRun();
        giveRefuses();
        finishAnswersWork();
        finishRefuses();
        passEdges();
        passWithNobodyReady();
        delayIsByBase();
        equalBaseIsNoDelay();
        spentStartsAnew();
        spentWithWrongNumbers();
        priorityOfDormantAndReady();
        places();
        holders();
        Check.end();
    }

    // Task 0 of base 2, task 1 of base 9, task 2 of base 5, tasks 3 and 4 of base 5.
    // Thing 0 has ceiling 9, thing 1 ceiling 5, thing 2 ceiling 2; nobody may use the others.
    private static CeilingDispatch sealed() {
        CeilingDispatch x = new CeilingDispatch();
        x.declare(0, 2, 3, 50);
        x.declare(1, 9, 2, 50);
        x.declare(2, 5, 4, 50);
        x.declare(3, 5, 4, 50);
        x.declare(4, 5, 4, 50);
        x.mayUse(0, 0, 7);
        x.mayUse(1, 0, 1);
        x.mayUse(0, 1, 4);
        x.mayUse(2, 1, 2);
        x.mayUse(0, 2, 4);
        x.seal();
        return x;
    }

    private static void releaseRefuses() {
        CeilingDispatch open = new CeilingDispatch();
        open.declare(0, 2, 3, 50);
        Check.refused("release before sealing", open, Check.STATE, () -> open.release(0));
        Check.refused("not sealed first", open, Check.STATE, () -> open.release(9));
        CeilingDispatch x = sealed();
        x.release(0);
        Check.refused("release of a ready task", x, Check.STATE, () -> x.release(0));
        for (int task : new int[] {5, 7, 8, -1, Integer.MIN_VALUE, Integer.MAX_VALUE}) {
            Check.same("release of no task", Check.thrownBy(() -> x.release(task)), Check.ARGUMENT);
        }
        Check.refused("release of a task not declared", x, Check.ARGUMENT, () -> x.release(6));
    }

    private static void turnsCountReleases() {
        CeilingDispatch x = sealed();
        Check.equal("first turn", x.release(3), 1);
        Check.same("ready", Check.thrownBy(() -> x.release(3)), Check.STATE);
        Check.same("not declared", Check.thrownBy(() -> x.release(5)), Check.ARGUMENT);
        Check.equal("second turn", x.release(1), 2);
        x.finish();
        Check.equal("third turn", x.release(1), 3);
    }

    private static void greaterPriorityRuns() {
        CeilingDispatch x = sealed();
        x.release(0);
        Check.equal("the only one", x.running(), 0);
        x.release(1);
        Check.equal("the more urgent one", x.running(), 1);
        x.release(2);
        Check.equal("still the most urgent one", x.running(), 1);
        x.finish();
        Check.equal("the next", x.running(), 2);
        x.finish();
        Check.equal("the last", x.running(), 0);
        x.finish();
        Check.equal("none", x.running(), CeilingDispatch.NONE);
    }

    private static void lesserTurnRunsAmongEqual() {
        CeilingDispatch x = sealed();
        x.release(4);
        x.release(2);
        x.release(3);
        Check.equal("least turn", x.running(), 4);
        x.finish();
        Check.equal("second turn", x.running(), 2);
        x.release(4);
        Check.equal("a new turn comes behind", x.running(), 2);
        x.finish();
        Check.equal("third turn", x.running(), 3);
        x.finish();
        Check.equal("the new turn", x.running(), 4);
    }

    private static void takeRaisesToTheCeiling() {
        CeilingDispatch x = sealed();
        x.release(0);
        Check.equal("take(1)", x.take(1), 5);
        Check.equal("priority(0)", x.priority(0), 5);
        x.release(2);
        Check.equal("same priority, greater turn does not run", x.running(), 0);
        Check.equal("take(0)", x.take(0), 9);
        x.release(1);
        Check.equal("nobody finds it taken", x.running(), 0);
        Check.equal("base of the raised one in place", x.place(0), 0);
    }

    private static void takeNeverLowers() {
        CeilingDispatch x = sealed();
        x.release(0);
        Check.equal("take(0)", x.take(0), 9);
        Check.equal("take(2) of ceiling 2", x.take(2), 9);
        Check.equal("take(1) of ceiling 5", x.take(1), 9);
        Check.equal("priority(0)", x.priority(0), 9);
    }

    private static void takeRefuses() {
        CeilingDispatch open = new CeilingDispatch();
        open.declare(0, 2, 3, 50);
        open.mayUse(0, 0, 1);
        Check.refused("take before sealing", open, Check.STATE, () -> open.take(0));
        CeilingDispatch idle = sealed();
        Check.refused("take when none runs", idle, Check.STATE, () -> idle.take(0));
        CeilingDispatch x = sealed();
        x.release(2);
        for (int thing : new int[] {0, 3, 5, -1, 6, Integer.MIN_VALUE, Integer.MAX_VALUE}) {
            Check.same("take of what it may not use", Check.thrownBy(() -> x.take(thing)), Check.ARGUMENT);
        }
        Check.refused("take of what another may use", x, Check.ARGUMENT, () -> x.take(2));
        x.take(1);
        Check.refused("take of what it holds", x, Check.STATE, () -> x.take(1));
    }

    private static void takeNamesStateFirst() {
        CeilingDispatch idle = sealed();
        Check.same("none runs and no such thing", Check.thrownBy(() -> idle.take(6)), Check.STATE);
        CeilingDispatch x = sealed();
        x.release(0);
        x.take(2);
        x.release(2);
        Check.equal("another runs", x.running(), 2);
        Check.refused("held and it may not use it", x, Check.STATE, () -> x.take(2));
    }

    private static void giveRestoresInTurn() {
        CeilingDispatch x = sealed();
        x.release(0);
        x.take(2);
        x.take(1);
        x.take(0);
        Check.equal("give(0)", x.give(0), 5);
        Check.equal("priority after", x.priority(0), 5);
        Check.equal("take(0) again", x.take(0), 9);
        Check.equal("give(0) again", x.give(0), 5);
        Check.equal("give(1)", x.give(1), 2);
        Check.equal("give(2)", x.give(2), 2);
        Check.equal("nothing held: finish()", x.finish(), 0);
    }

    private static void giveLetsAnotherRun() {
        CeilingDispatch x = sealed();
        x.release(0);
        x.take(1);
        x.take(0);
        x.release(1);
        x.release(2);
        Check.equal("answers the giver's priority", x.give(0), 5);
        Check.equal("the more urgent one runs", x.running(), 1);
        Check.refused("the one that runs holds nothing", x, Check.ARGUMENT, () -> x.give(1));
        x.finish();
        Check.equal("the holder of the lesser turn", x.running(), 0);
        Check.equal("give(1)", x.give(1), 2);
        Check.equal("the other of base 5", x.running(), 2);
    }

    private static void giveRefuses() {
        CeilingDispatch open = new CeilingDispatch();
        Check.refused("give before sealing", open, Check.STATE, () -> open.give(0));
        CeilingDispatch idle = sealed();
        Check.refused("give when none runs", idle, Check.STATE, () -> idle.give(6));
        CeilingDispatch x = sealed();
        x.release(0);
        for (int thing : new int[] {0, -1, 6, Integer.MIN_VALUE, Integer.MAX_VALUE}) {
            Check.same("give of what is not held", Check.thrownBy(() -> x.give(thing)), Check.ARGUMENT);
        }
        x.take(0);
        x.take(1);
        Check.refused("give of the one taken first", x, Check.ARGUMENT, () -> x.give(0));
        x.give(1);
        Check.same("give twice", Check.thrownBy(() -> x.give(1)), Check.ARGUMENT);
    }

    private static void finishAnswersWork() {
        CeilingDispatch x = sealed();
        x.release(0);
        x.pass(4);
        x.release(1);
        x.pass(6);
        Check.equal("work of the more urgent one", x.finish(), 6);
        x.pass(1);
        Check.equal("work in two pieces", x.finish(), 5);
        Check.equal("it is dormant", x.place(0), CeilingDispatch.NONE);
    }

    private static void finishRefuses() {
        CeilingDispatch open = new CeilingDispatch();
        Check.refused("finish before sealing", open, Check.STATE, () -> open.finish());
        CeilingDispatch idle = sealed();
        Check.refused("finish when none runs", idle, Check.STATE, () -> idle.finish());
        CeilingDispatch x = sealed();
        x.release(0);
        x.take(2);
        Check.refused("finish of one that holds", x, Check.STATE, () -> x.finish());
        x.release(1);
        Check.same("another holds", Check.thrownBy(() -> x.finish()), "nothing");
    }

    private static void passEdges() {
        CeilingDispatch x = sealed();
        x.release(0);
        Check.equal("pass(0)", x.pass(0), 0);
        Check.equal("pass(100)", x.pass(100), 100);
        Check.equal("pass(1)", x.pass(1), 101);
        for (int n : new int[] {-1, 101, Integer.MIN_VALUE, Integer.MAX_VALUE}) {
            Check.same("pass of too much or too little", Check.thrownBy(() -> x.pass(n)), Check.ARGUMENT);
        }
        Check.refused("pass(101)", x, Check.ARGUMENT, () -> x.pass(101));
        Check.equal("work", x.spent(0, 0), 101);
    }

    private static void passWithNobodyReady() {
        CeilingDispatch x = new CeilingDispatch();
        Check.equal("pass before sealing", x.pass(7), 7);
        x.declare(0, 2, 3, 50);
        x.seal();
        Check.equal("pass when none runs", x.pass(3), 10);
        Check.equal("no work", x.spent(0, 0), 0);
        Check.equal("no delay", x.spent(0, 1), 0);
        Check.equal("the clock went on for 400 calls", passMany(x, 400), 40010);
    }

    private static int passMany(CeilingDispatch x, int times) {
        int clock = 0;
        for (int i = 0; i < times; i++) {
            clock = x.pass(100);
        }
        return clock;
    }

    private static void delayIsByBase() {
        CeilingDispatch x = sealed();
        x.release(0);
        x.take(0);
        x.release(1);
        x.release(2);
        x.pass(3);
        Check.equal("work of the holder", x.spent(0, 0), 3);
        Check.equal("no delay of the holder", x.spent(0, 1), 0);
        Check.equal("delay of base 9", x.spent(1, 1), 3);
        Check.equal("delay of base 5, by base though the priority is less", x.spent(2, 1), 3);
        Check.equal("no delay of a dormant one", x.spent(3, 1), 0);
        x.give(0);
        x.pass(5);
        Check.equal("work of base 9", x.spent(1, 0), 5);
        Check.equal("no delay by a more urgent one", x.spent(2, 1), 3);
        Check.equal("none for the least urgent one", x.spent(0, 1), 0);
    }

    private static void equalBaseIsNoDelay() {
        CeilingDispatch x = sealed();
        x.release(2);
        x.release(3);
        x.pass(8);
        Check.equal("same base", x.spent(3, 1), 0);
        Check.equal("no work of the one that waits", x.spent(3, 0), 0);
    }

    private static void spentStartsAnew() {
        CeilingDispatch x = sealed();
        x.release(0);
        x.take(0);
        x.release(1);
        x.pass(3);
        x.give(0);
        x.pass(2);
        x.finish();
        x.pass(9);
        Check.equal("work stays", x.spent(1, 0), 2);
        Check.equal("delay stays", x.spent(1, 1), 3);
        Check.equal("finish() of the other", x.finish(), 12);
        x.release(1);
        Check.equal("work is 0 again", x.spent(1, 0), 0);
        Check.equal("delay is 0 again", x.spent(1, 1), 0);
        Check.equal("that of the other stays", x.spent(0, 0), 12);
    }

    private static void spentWithWrongNumbers() {
        CeilingDispatch x = sealed();
        x.release(0);
        x.take(0);
        x.release(1);
        x.pass(5);
        x.give(0);
        x.pass(6);
        Check.equal("work", x.spent(1, 0), 6);
        Check.equal("delay", x.spent(1, 1), 5);
        for (int what : new int[] {-1, 2, Integer.MIN_VALUE, Integer.MAX_VALUE}) {
            Check.equal("spent of another what", x.spent(1, what), 0);
        }
        for (int task : new int[] {-1, 5, 8, Integer.MIN_VALUE, Integer.MAX_VALUE}) {
            Check.equal("spent of no task", x.spent(task, 0), 0);
        }
    }

    private static void priorityOfDormantAndReady() {
        CeilingDispatch open = new CeilingDispatch();
        open.declare(6, 11, 1, 1);
        Check.equal("declared, not sealed", open.priority(6), 11);
        CeilingDispatch x = sealed();
        Check.equal("dormant", x.priority(0), 2);
        x.release(0);
        x.take(0);
        Check.equal("raised", x.priority(0), 9);
        x.give(0);
        x.finish();
        Check.equal("dormant again", x.priority(0), 2);
        for (int task : new int[] {-1, 5, 8, Integer.MIN_VALUE, Integer.MAX_VALUE}) {
            Check.equal("priority of no task", x.priority(task), CeilingDispatch.NONE);
        }
    }

    private static void places() {
        CeilingDispatch x = sealed();
        x.release(0);
        x.take(1);
        x.release(4);
        x.release(3);
        x.release(1);
        Check.equal("place(1)", x.place(1), 0);
        Check.equal("place(0), raised to 5", x.place(0), 1);
        Check.equal("place(4)", x.place(4), 2);
        Check.equal("place(3)", x.place(3), 3);
        Check.equal("place of a dormant task", x.place(2), CeilingDispatch.NONE);
        for (int task : new int[] {-1, 5, 8, Integer.MIN_VALUE, Integer.MAX_VALUE}) {
            Check.equal("place of no task", x.place(task), CeilingDispatch.NONE);
        }
    }

    private static void holders() {
        CeilingDispatch x = sealed();
        x.release(0);
        x.take(2);
        x.release(2);
        x.take(1);
        Check.equal("holder(2)", x.holder(2), 0);
        Check.equal("holder(1)", x.holder(1), 2);
        Check.equal("holder(0)", x.holder(0), CeilingDispatch.NONE);
        x.give(1);
        Check.equal("holder(1) after", x.holder(1), CeilingDispatch.NONE);
        Check.equal("holder(2) still", x.holder(2), 0);
        for (int thing : new int[] {-1, 6, Integer.MIN_VALUE, Integer.MAX_VALUE}) {
            Check.equal("holder of no thing", x.holder(thing), CeilingDispatch.NONE);
        }
    }
}
