// Promises 18 and 19: notes and note.
public final class NotesTest {
    private static final int NO_THING = 15;
    private static final int NO_TASK = 8;

    public static void main(String[] args) {
        eachKindInItsOrder();
        runsOnlyWhenAnotherRuns();
        clockInNotes();
        fortyAreKept();
        wrongNumbers();
        whatThrowsAndAsksIsNotNoted();
        Check.end();
    }

    private static CeilingDispatch two() {
        CeilingDispatch x = new CeilingDispatch();
        x.declare(0, 1, 1, 50);
        x.declare(7, 2, 1, 50);
        x.mayUse(0, 5, 1);
        x.mayUse(7, 5, 1);
        x.mayUse(0, 0, 1);
        x.seal();
        return x;
    }

    private static void noted(CeilingDispatch x, int k, int clock, int thing, int task, int what) {
        Check.equal("note(" + k + ")", x.note(k), Check.noteOf(clock, thing, task, what));
    }

    private static void eachKindInItsOrder() {
        CeilingDispatch x = two();
        Check.equal("none by setting up", x.notes(), 0);
        x.release(0);
        Check.equal("released and runs", x.notes(), 2);
        noted(x, 1, 0, NO_THING, 0, CeilingDispatch.RELEASED);
        noted(x, 0, 0, NO_THING, 0, CeilingDispatch.RUNS);
        x.take(5);
        Check.equal("taken", x.notes(), 3);
        noted(x, 0, 0, 5, 0, CeilingDispatch.TAKEN);
        x.release(7);
        Check.equal("released, but does not run", x.notes(), 4);
        noted(x, 0, 0, NO_THING, 7, CeilingDispatch.RELEASED);
        x.give(5);
        Check.equal("given, and the other runs", x.notes(), 6);
        noted(x, 1, 0, 5, 0, CeilingDispatch.GIVEN);
        noted(x, 0, 0, NO_THING, 7, CeilingDispatch.RUNS);
        x.finish();
        Check.equal("finished, and the first runs again", x.notes(), 8);
        noted(x, 1, 0, NO_THING, 7, CeilingDispatch.FINISHED);
        noted(x, 0, 0, NO_THING, 0, CeilingDispatch.RUNS);
        x.finish();
        Check.equal("finished, and none runs", x.notes(), 10);
        noted(x, 1, 0, NO_THING, 0, CeilingDispatch.FINISHED);
        noted(x, 0, 0, NO_THING, NO_TASK, CeilingDispatch.RUNS);
        noted(x, 9, 0, NO_THING, 0, CeilingDispatch.RELEASED);
    }

    private static void runsOnlyWhenAnotherRuns() {
        CeilingDispatch x = two();
        x.release(7);
        x.take(5);
        x.give(5);
        Check.equal("released, runs, taken, given", x.notes(), 4);
        x.release(0);
        Check.equal("and released", x.notes(), 5);
        noted(x, 0, 0, NO_THING, 0, CeilingDispatch.RELEASED);
    }

    private static void clockInNotes() {
        CeilingDispatch x = two();
        x.pass(9);
        x.release(0);
        x.pass(91);
        x.take(0);
        noted(x, 0, 100, 0, 0, CeilingDispatch.TAKEN);
        noted(x, 1, 9, NO_THING, 0, CeilingDispatch.RUNS);
        for (int i = 0; i < 450; i++) {
            x.pass(100);
        }
        x.give(0);
        noted(x, 0, 45100, 0, 0, CeilingDispatch.GIVEN);
    }

    private static void fortyAreKept() {
        CeilingDispatch x = two();
        x.release(0);
        for (int i = 0; i < 19; i++) {
            x.take(0);
            x.pass(1);
            x.give(0);
        }
        Check.equal("forty", x.notes(), 40);
        noted(x, 39, 0, NO_THING, 0, CeilingDispatch.RELEASED);
        noted(x, 38, 0, NO_THING, 0, CeilingDispatch.RUNS);
        Check.equal("note(40)", x.note(40), CeilingDispatch.NONE);
        x.take(0);
        Check.equal("forty-one", x.notes(), 41);
        noted(x, 39, 0, NO_THING, 0, CeilingDispatch.RUNS);
        noted(x, 0, 19, 0, 0, CeilingDispatch.TAKEN);
        Check.equal("note(40) is not kept", x.note(40), CeilingDispatch.NONE);
        x.give(0);
        for (int i = 0; i < 60; i++) {
            x.pass(1);
            x.take(0);
            x.give(0);
        }
        Check.equal("all that were made", x.notes(), 162);
        for (int k = 0; k < 40; k += 2) {
            noted(x, k, 79 - k / 2, 0, 0, CeilingDispatch.GIVEN);
            noted(x, k + 1, 79 - k / 2, 0, 0, CeilingDispatch.TAKEN);
        }
        Check.equal("note(41)", x.note(41), CeilingDispatch.NONE);
    }

    private static void wrongNumbers() {
        CeilingDispatch x = two();
        x.release(0);
        for (int k : new int[] {-1, 2, 39, 40, Integer.MIN_VALUE, Integer.MAX_VALUE}) {
            Check.equal("note(" + k + ")", x.note(k), CeilingDispatch.NONE);
        }
    }

    private static void whatThrowsAndAsksIsNotNoted() {
        CeilingDispatch x = two();
        x.release(0);
        x.pass(5);
        Check.thrownBy(() -> x.release(0));
        Check.thrownBy(() -> x.release(3));
        Check.thrownBy(() -> x.take(4));
        Check.thrownBy(() -> x.give(4));
        Check.thrownBy(() -> x.pass(-1));
        Check.thrownBy(() -> x.seal());
        Check.equal("notes()", x.notes(), 2);
        noted(x, 0, 0, NO_THING, 0, CeilingDispatch.RUNS);
    }
}
