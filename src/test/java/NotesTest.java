// Promises 18 and 19: notes and note; and of the terms, which notes are made and that the latest 40 are kept.
public final class NotesTest {
    public static void main(String[] args) {
        Check.runAll(NotesTest.class);
    }

    // "of a call that releases, takes, gives back or finishes, RELEASED, TAKEN, GIVEN or FINISHED with the task that
    // it is about (and the thing); and then, if another task runs than before (or none does, or one does where none
    // did), RUNS with that task (8 for none)"

    private static void releaseWhereNoneRanIsNotedAndRuns() {
        CeilingDispatch x = Scene.one();
        Check.equal("notes()", x.notes(), 2);
        Check.noted(x, 1, 0, Scene.NO_THING, 0, CeilingDispatch.RELEASED);
        Check.noted(x, 0, 0, Scene.NO_THING, 0, CeilingDispatch.RUNS);
    }

    private static void releaseOfAMoreUrgentOneIsNotedAndRuns() {
        CeilingDispatch x = Scene.one();
        x.release(1);
        Check.equal("notes()", x.notes(), 4);
        Check.noted(x, 1, 0, Scene.NO_THING, 1, CeilingDispatch.RELEASED);
        Check.noted(x, 0, 0, Scene.NO_THING, 1, CeilingDispatch.RUNS);
    }

    private static void releaseOfALessUrgentOneIsNotedAlone() {
        CeilingDispatch x = Scene.idle();
        x.release(1);
        x.release(0);
        Check.equal("notes()", x.notes(), 3);
        Check.noted(x, 0, 0, Scene.NO_THING, 0, CeilingDispatch.RELEASED);
    }

    private static void releaseOfOneOfTheSamePriorityIsNotedAlone() {
        CeilingDispatch x = Scene.idle();
        x.release(3);
        x.release(2);
        Check.equal("notes()", x.notes(), 3);
        Check.noted(x, 0, 0, Scene.NO_THING, 2, CeilingDispatch.RELEASED);
    }

    private static void takeIsNotedAlone() {
        CeilingDispatch x = Scene.one();
        x.take(0);
        Check.equal("notes()", x.notes(), 3);
        Check.noted(x, 0, 0, 0, 0, CeilingDispatch.TAKEN);
    }

    private static void takeWithoutBeingRaisedIsNoted() {
        CeilingDispatch x = Scene.one();
        x.take(2);
        Check.equal("notes()", x.notes(), 3);
        Check.noted(x, 0, 0, 2, 0, CeilingDispatch.TAKEN);
    }

    private static void giveThatLetsNoOtherRunIsNotedAlone() {
        CeilingDispatch x = Scene.holding();
        x.give(1);
        Check.equal("notes()", x.notes(), 5);
        Check.noted(x, 0, 0, 1, 0, CeilingDispatch.GIVEN);
    }

    private static void giveThatLetsAnotherRunIsNotedOfTheGiver() {
        CeilingDispatch x = Scene.holding();
        x.release(2);
        x.give(1);
        Check.equal("notes()", x.notes(), 7);
        Check.noted(x, 1, 0, 1, 0, CeilingDispatch.GIVEN);
        Check.noted(x, 0, 0, Scene.NO_THING, 2, CeilingDispatch.RUNS);
    }

    private static void finishThatLetsAnotherRunIsNoted() {
        CeilingDispatch x = Scene.one();
        x.release(1);
        x.finish();
        Check.equal("notes()", x.notes(), 6);
        Check.noted(x, 1, 0, Scene.NO_THING, 1, CeilingDispatch.FINISHED);
        Check.noted(x, 0, 0, Scene.NO_THING, 0, CeilingDispatch.RUNS);
    }

    private static void finishOfTheLastIsNotedWith8() {
        CeilingDispatch x = Scene.one();
        x.finish();
        Check.equal("notes()", x.notes(), 4);
        Check.noted(x, 1, 0, Scene.NO_THING, 0, CeilingDispatch.FINISHED);
        Check.noted(x, 0, 0, Scene.NO_THING, Scene.NO_TASK, CeilingDispatch.RUNS);
    }

    private static void releaseAfterNoneRanRunsAgain() {
        CeilingDispatch x = Scene.over();
        int before = x.notes();
        x.release(0);
        Check.equal("notes()", x.notes(), before + 2);
        Check.noted(x, 1, 5, Scene.NO_THING, 0, CeilingDispatch.RELEASED);
        Check.noted(x, 0, 5, Scene.NO_THING, 0, CeilingDispatch.RUNS);
    }

    // Promise 18: "How many notes were made, ever."

    private static void notesOfSettingUpAndTimeAreNone() {
        CeilingDispatch x = Scene.idle();
        x.pass(100);
        Check.equal("notes()", x.notes(), 0);
    }

    private static void notesOfTimeThatPassesAreNone() {
        CeilingDispatch x = Scene.one();
        x.pass(100);
        Check.equal("notes()", x.notes(), 2);
    }

    private static void notesOfRefusedCallsAreNone() {
        CeilingDispatch x = Scene.busy();
        int before = x.notes();
        Check.thrownBy(() -> x.declare(5, 1, 1, 1));
        Check.thrownBy(() -> x.mayUse(0, 0, 1));
        Check.thrownBy(x::seal);
        Check.thrownBy(() -> x.release(0));
        Check.thrownBy(() -> x.release(5));
        Check.thrownBy(() -> x.take(0));
        Check.thrownBy(() -> x.take(4));
        Check.thrownBy(() -> x.give(4));
        Check.thrownBy(x::finish);
        Check.thrownBy(() -> x.pass(-1));
        Check.equal("notes()", x.notes(), before);
    }

    private static void notesOfQuestionsAreNone() {
        CeilingDispatch x = Scene.busy();
        int before = x.notes();
        x.running();
        x.priority(0);
        x.place(0);
        x.ceiling(0);
        x.holder(0);
        x.spent(0, 0);
        x.blocking(0);
        x.response(0);
        x.note(0);
        Check.equal("notes()", x.notes(), before);
    }

    private static void notesAreCountedBeyondTheKeptOnes() {
        Check.equal("40", many(40).notes(), 40);
        Check.equal("41", many(41).notes(), 41);
        Check.equal("300", many(300).notes(), 300);
    }

    // 4 by each release and finish: nearly the most that an object's calls can make.
    private static void notesOfAllThat510CallsMake() {
        CeilingDispatch x = new CeilingDispatch();
        x.declare(0, 1, 1, 1);
        x.seal();
        for (int i = 0; i < 254; i++) {
            x.release(0);
            x.finish();
        }
        Check.equal("notes()", x.notes(), 1016);
    }

    // "The latest 40 notes are kept."

    // RELEASED and RUNS, then TAKEN and GIVEN of thing 0 in turn, each a tick after the one before: so many in all.
    private static CeilingDispatch many(int notes) {
        CeilingDispatch x = Scene.one();
        for (int made = 2; made < notes; made++) {
            x.pass(1);
            if (made % 2 == 0) {
                x.take(0);
            } else {
                x.give(0);
            }
        }
        return x;
    }

    private static void keptAreAllOf39() {
        CeilingDispatch x = many(39);
        Check.noted(x, 38, 0, Scene.NO_THING, 0, CeilingDispatch.RELEASED);
        Check.none("note(39)", x.note(39));
    }

    private static void keptAreAllOf40() {
        CeilingDispatch x = many(40);
        Check.noted(x, 39, 0, Scene.NO_THING, 0, CeilingDispatch.RELEASED);
        Check.noted(x, 38, 0, Scene.NO_THING, 0, CeilingDispatch.RUNS);
        Check.noted(x, 0, 38, 0, 0, CeilingDispatch.GIVEN);
        Check.none("note(40)", x.note(40));
    }

    private static void keptAreTheLatest40Of41() {
        CeilingDispatch x = many(41);
        Check.noted(x, 39, 0, Scene.NO_THING, 0, CeilingDispatch.RUNS);
        Check.noted(x, 0, 39, 0, 0, CeilingDispatch.TAKEN);
        Check.none("note(40)", x.note(40));
    }

    // Tasks 3 and 2 of the same base finish in turn, each released again behind the other: 3 notes each time.
    private static void keptAreTheLatest40WhenACallMakesTwo() {
        CeilingDispatch x = Scene.idle();
        x.release(3);
        x.release(2);
        for (int i = 0; i < 12; i++) {
            x.finish();
            x.release(i % 2 == 0 ? 3 : 2);
        }
        Check.equal("notes()", x.notes(), 39);
        x.finish();
        Check.equal("notes()", x.notes(), 41);
        Check.noted(x, 0, 0, Scene.NO_THING, 2, CeilingDispatch.RUNS);
        Check.noted(x, 1, 0, Scene.NO_THING, 3, CeilingDispatch.FINISHED);
        Check.noted(x, 39, 0, Scene.NO_THING, 3, CeilingDispatch.RUNS);
        Check.none("note(40)", x.note(40));
    }

    private static void keptAreTheLatest40AfterManyTurnsOver() {
        for (int made = 79; made <= 82; made++) {
            CeilingDispatch x = many(made);
            for (int k = 0; k < 40; k++) {
                int before = made - 1 - k;
                Check.noted(x, k, before - 1, 0, 0, before % 2 == 0 ? CeilingDispatch.TAKEN : CeilingDispatch.GIVEN);
            }
            Check.none("note(40)", x.note(40));
            Check.none("note(41)", x.note(41));
        }
    }

    // Promise 19: "Note k from the latest one (0) backwards: 4096 * the clock (modulo 65536) + 256 * the thing
    // (15 without one) + 16 * the task + what it is of; NONE when it is not kept."

    private static void noteAsANumber() {
        CeilingDispatch x = Scene.idle();
        x.pass(3);
        x.release(2);
        x.take(1);
        Check.equal("TAKEN of thing 1 by task 2 at 3", x.note(0), 12578);
        Check.equal("RUNS of task 2 at 3", x.note(1), 16165);
        Check.equal("RELEASED of task 2 at 3", x.note(2), 16161);
    }

    private static void noteOfTask7AndThing5() {
        CeilingDispatch x = Scene.greatestNumbers();
        Check.noted(x, 0, 0, 5, 7, CeilingDispatch.TAKEN);
        x.give(5);
        Check.noted(x, 0, 0, 5, 7, CeilingDispatch.GIVEN);
        x.finish();
        Check.noted(x, 1, 0, Scene.NO_THING, 7, CeilingDispatch.FINISHED);
    }

    private static void noteKeepsTheClockOfItsCall() {
        CeilingDispatch x = Scene.idle();
        x.pass(9);
        x.release(0);
        x.pass(91);
        x.take(0);
        x.pass(100);
        Check.noted(x, 0, 100, 0, 0, CeilingDispatch.TAKEN);
        Check.noted(x, 1, 9, Scene.NO_THING, 0, CeilingDispatch.RUNS);
        Check.noted(x, 2, 9, Scene.NO_THING, 0, CeilingDispatch.RELEASED);
    }

    private static void noteOfALateClock() {
        CeilingDispatch x = Scene.one();
        passHundreds(x, 490);
        x.take(0);
        Check.noted(x, 0, 49000, 0, 0, CeilingDispatch.TAKEN);
    }

    // Beyond the 512 calls, where answers are free: no object comes to 65536 within them. The words say it all the
    // same, and this is the only way to hold the program to them.
    private static void noteOfAClockThatTurnedOver() {
        CeilingDispatch x = Scene.one();
        passHundreds(x, 655);
        x.pass(35);
        x.take(0);
        Check.noted(x, 0, 65535, 0, 0, CeilingDispatch.TAKEN);
        x.pass(1);
        x.give(0);
        Check.noted(x, 0, 0, 0, 0, CeilingDispatch.GIVEN);
        x.pass(5);
        x.take(0);
        Check.noted(x, 0, 5, 0, 0, CeilingDispatch.TAKEN);
    }

    private static void passHundreds(CeilingDispatch x, int times) {
        for (int i = 0; i < times; i++) {
            x.pass(100);
        }
    }

    private static void noteOfTooLittleKIsNone() {
        CeilingDispatch x = many(41);
        Check.none("note(-1)", x.note(-1));
        Check.none("note(-40)", x.note(-40));
        Check.none("note of the least number", x.note(Scene.LEAST));
    }

    private static void noteOfTooGreatKIsNone() {
        CeilingDispatch x = many(41);
        Check.none("note(40)", x.note(40));
        Check.none("note(41)", x.note(41));
        Check.none("note(80)", x.note(80));
        Check.none("note of the greatest number", x.note(Scene.MOST));
    }

    private static void noteThatWasNotMadeIsNone() {
        CeilingDispatch x = Scene.one();
        Check.none("note(2)", x.note(2));
        Check.none("note(39)", x.note(39));
        Check.none("of an object without notes", Scene.idle().note(0));
    }
}
