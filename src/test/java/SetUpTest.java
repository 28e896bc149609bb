// Promises 1 to 4: a new object, declare, mayUse, seal; and 13, ceiling, which is what sealing fixes.
public final class SetUpTest {
    public static void main(String[] args) {
        newObject();
        declareTakesItsEdges();
        declareRefusesWhatIsBeyondThem();
        declareOnceAndBeforeSealing();
        declareNamesStateFirst();
        refusedDeclareLeavesTheTaskFree();
        mayUseTakesItsEdges();
        mayUseRefuses();
        mayUseReplaces();
        refusedMayUseGrantsNothing();
        sealCounts();
        ceilings();
        Check.end();
    }

    private static void newObject() {
        CeilingDispatch x = new CeilingDispatch();
        Check.equal("new: pass(0)", x.pass(0), 0);
        Check.equal("new: running()", x.running(), CeilingDispatch.NONE);
        Check.equal("new: notes()", x.notes(), 0);
        Check.equal("new: note(0)", x.note(0), CeilingDispatch.NONE);
        for (int task = -1; task <= 8; task++) {
            Check.equal("new: priority", x.priority(task), CeilingDispatch.NONE);
            Check.equal("new: place", x.place(task), CeilingDispatch.NONE);
            Check.equal("new: spent 0", x.spent(task, 0), 0);
            Check.equal("new: spent 1", x.spent(task, 1), 0);
            Check.equal("new: blocking", x.blocking(task), CeilingDispatch.NONE);
            Check.equal("new: response", x.response(task), CeilingDispatch.NONE);
        }
        for (int thing = -1; thing <= 6; thing++) {
            Check.equal("new: ceiling", x.ceiling(thing), CeilingDispatch.NONE);
            Check.equal("new: holder", x.holder(thing), CeilingDispatch.NONE);
        }
        Check.equal("new: seal()", x.seal(), 0);
    }

    private static void declareTakesItsEdges() {
        CeilingDispatch x = new CeilingDispatch();
        x.declare(0, 1, 1, 1);
        x.declare(7, 16, 50, 200);
        Check.equal("priority of base 1", x.priority(0), 1);
        Check.equal("priority of base 16", x.priority(7), 16);
        Check.equal("priority of the task not declared", x.priority(1), CeilingDispatch.NONE);
        Check.equal("seal() with the two", x.seal(), 2);
        Check.equal("response of cost 50", x.response(7), 50);
        Check.equal("response beyond period 1", x.response(0), CeilingDispatch.NONE);
    }

    private static void declareRefusesWhatIsBeyondThem() {
        int[][] wrong = {
            {-1, 1, 1, 1}, {8, 1, 1, 1}, {Integer.MIN_VALUE, 1, 1, 1}, {Integer.MAX_VALUE, 1, 1, 1},
            {0, 0, 1, 1}, {0, 17, 1, 1}, {0, -5, 1, 1}, {0, Integer.MAX_VALUE, 1, 1},
            {0, 1, 0, 1}, {0, 1, 51, 1}, {0, 1, Integer.MIN_VALUE, 1},
            {0, 1, 1, 0}, {0, 1, 1, 201}, {0, 1, 1, Integer.MIN_VALUE},
        };
        for (int[] w : wrong) {
            CeilingDispatch x = new CeilingDispatch();
            Check.refused("declare of wrong numbers", x, Check.ARGUMENT, () -> x.declare(w[0], w[1], w[2], w[3]));
            Check.equal("seal() after it", x.seal(), 0);
        }
    }

    private static void declareOnceAndBeforeSealing() {
        CeilingDispatch x = new CeilingDispatch();
        x.declare(3, 5, 6, 70);
        Check.refused("declare again", x, Check.STATE, () -> x.declare(3, 9, 1, 2));
        x.seal();
        Check.equal("response as first declared", x.response(3), 6);
        Check.refused("declare when sealed", x, Check.STATE, () -> x.declare(4, 1, 1, 1));
    }

    private static void declareNamesStateFirst() {
        CeilingDispatch x = new CeilingDispatch();
        x.declare(0, 1, 1, 1);
        Check.refused("declared and wrong base", x, Check.STATE, () -> x.declare(0, 0, 1, 1));
        x.seal();
        Check.refused("sealed and no such task", x, Check.STATE, () -> x.declare(8, 1, 1, 1));
    }

    private static void refusedDeclareLeavesTheTaskFree() {
        CeilingDispatch x = new CeilingDispatch();
        Check.same("wrong period", Check.thrownBy(() -> x.declare(2, 3, 4, 201)), Check.ARGUMENT);
        Check.same("then a right one", Check.thrownBy(() -> x.declare(2, 6, 7, 8)), "nothing");
        Check.equal("its base", x.priority(2), 6);
    }

    private static void mayUseTakesItsEdges() {
        CeilingDispatch x = new CeilingDispatch();
        x.declare(0, 2, 1, 200);
        x.declare(7, 3, 1, 200);
        x.mayUse(0, 0, 1);
        x.mayUse(7, 0, 1);
        x.mayUse(0, 5, 50);
        x.seal();
        Check.equal("blocking by length 1", x.blocking(7), 1);
        Check.equal("ceiling(5)", x.ceiling(5), 2);
    }

    private static void mayUseRefuses() {
        CeilingDispatch x = new CeilingDispatch();
        x.declare(0, 2, 1, 200);
        int[][] wrong = {
            {1, 0, 1}, {-1, 0, 1}, {8, 0, 1}, {Integer.MAX_VALUE, 0, 1}, {0, -1, 1}, {0, 6, 1},
            {0, Integer.MIN_VALUE, 1}, {0, 0, 0}, {0, 0, 51}, {0, 0, -1}, {0, 0, Integer.MAX_VALUE},
        };
        for (int[] w : wrong) {
            Check.same("mayUse of wrong numbers", Check.thrownBy(() -> x.mayUse(w[0], w[1], w[2])), Check.ARGUMENT);
        }
        x.seal();
        Check.equal("no ceiling by what was refused", x.ceiling(0), 0);
        Check.refused("mayUse when sealed", x, Check.STATE, () -> x.mayUse(0, 0, 1));
        Check.same("sealed first", Check.thrownBy(() -> x.mayUse(9, 9, 99)), Check.STATE);
    }

    private static void mayUseReplaces() {
        CeilingDispatch x = new CeilingDispatch();
        x.declare(0, 2, 1, 200);
        x.declare(1, 3, 1, 200);
        x.mayUse(1, 4, 9);
        x.mayUse(0, 4, 30);
        x.mayUse(0, 4, 20);
        x.seal();
        Check.equal("the later, lesser length", x.blocking(1), 20);
    }

    private static void refusedMayUseGrantsNothing() {
        CeilingDispatch x = new CeilingDispatch();
        x.declare(0, 2, 1, 200);
        x.declare(1, 3, 1, 200);
        x.mayUse(1, 4, 9);
        x.mayUse(0, 4, 30);
        Check.same("length 51", Check.thrownBy(() -> x.mayUse(0, 4, 51)), Check.ARGUMENT);
        Check.same("length 0", Check.thrownBy(() -> x.mayUse(0, 4, 0)), Check.ARGUMENT);
        x.seal();
        Check.equal("the length told before", x.blocking(1), 30);
    }

    private static void sealCounts() {
        for (int declared = 0; declared <= 8; declared++) {
            CeilingDispatch x = new CeilingDispatch();
            for (int task = 0; task < declared; task++) {
                x.declare(7 - task, 1, 1, 1);
            }
            Check.equal("seal()", x.seal(), declared);
            Check.refused("seal() again", x, Check.STATE, () -> x.seal());
        }
    }

    private static void ceilings() {
        CeilingDispatch x = new CeilingDispatch();
        x.declare(0, 2, 1, 200);
        x.declare(1, 16, 1, 200);
        x.declare(2, 9, 1, 200);
        x.mayUse(0, 0, 5);
        x.mayUse(1, 0, 1);
        x.mayUse(2, 0, 3);
        x.mayUse(2, 5, 3);
        x.mayUse(0, 5, 50);
        Check.equal("ceiling(0) before sealing", x.ceiling(0), CeilingDispatch.NONE);
        x.seal();
        Check.equal("ceiling(0)", x.ceiling(0), 16);
        Check.equal("ceiling(5)", x.ceiling(5), 9);
        Check.equal("ceiling(1), which nobody may use", x.ceiling(1), 0);
        Check.equal("ceiling(6)", x.ceiling(6), CeilingDispatch.NONE);
        Check.equal("ceiling(-1)", x.ceiling(-1), CeilingDispatch.NONE);
        Check.equal("ceiling(least)", x.ceiling(Integer.MIN_VALUE), CeilingDispatch.NONE);
    }
}
