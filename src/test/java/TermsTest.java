// The section 'Terms', but for what stands of blocking and response in BeforehandTest and of notes in NotesTest.
public final class TermsTest {
    public static void main(String[] args) {
        Check.runAll(TermsTest.class);
    }

    // "An object is used for at most 512 calls after it has been made"

    private static void the512thCallAnswers() {
        CeilingDispatch x = new CeilingDispatch();
        x.declare(0, 1, 1, 1);
        x.seal();
        x.release(0);
        for (int i = 0; i < 508; i++) {
            x.pass(100);
        }
        Check.equal("finish()", x.finish(), 50800);
    }

    // "TASKS 0 .. 7", "THINGS are 0 .. 5", "BASE priority (1 .. 16, the greater one more urgent)"

    private static void allTasksAndThingsAtOnce() {
        CeilingDispatch x = new CeilingDispatch();
        for (int task = 0; task < 8; task++) {
            x.declare(task, 16 - task, 1, 200);
            for (int thing = 0; thing < 6; thing++) {
                x.mayUse(task, thing, 1 + task + thing);
            }
        }
        Check.equal("seal()", x.seal(), 8);
        for (int thing = 0; thing < 6; thing++) {
            Check.equal("ceiling", x.ceiling(thing), 16);
        }
        Check.equal("blocking(0)", x.blocking(0), 13);
        Check.equal("blocking(7)", x.blocking(7), 0);
    }

    private static void base16IsMoreUrgentThanBase15() {
        CeilingDispatch x = new CeilingDispatch();
        x.declare(0, 15, 1, 1);
        x.declare(1, 16, 1, 1);
        x.seal();
        x.release(0);
        x.release(1);
        Check.equal("running()", x.running(), 1);
    }

    // "As soon as it is SEALED, nothing of this changes any more"

    private static void sealedNothingChanges() {
        CeilingDispatch x = Scene.idle();
        Check.thrownBy(() -> x.declare(5, 16, 50, 1));
        Check.thrownBy(() -> x.declare(0, 16, 50, 1));
        Check.thrownBy(() -> x.mayUse(1, 1, 50));
        Check.thrownBy(() -> x.mayUse(0, 0, 50));
        Check.none("priority(5)", x.priority(5));
        Check.equal("priority(0)", x.priority(0), 2);
        Check.equal("ceiling(1)", x.ceiling(1), 5);
        Check.equal("blocking(1)", x.blocking(1), 7);
        Check.equal("response(1)", x.response(1), 9);
    }

    // "the greatest base of the tasks that may use it, 0 if there is none"

    private static void ceilingIsNotThatOfTheLastToldNorOfTheFirst() {
        CeilingDispatch x = new CeilingDispatch();
        x.declare(0, 2, 1, 1);
        x.declare(1, 16, 1, 1);
        x.declare(2, 9, 1, 1);
        x.mayUse(2, 0, 3);
        x.mayUse(1, 0, 1);
        x.mayUse(0, 0, 5);
        x.seal();
        Check.equal("ceiling(0)", x.ceiling(0), 16);
    }

    private static void ceilingIsOfUsersAloneAndNotOfAllTasks() {
        CeilingDispatch x = new CeilingDispatch();
        x.declare(0, 2, 1, 1);
        x.declare(1, 16, 1, 1);
        x.mayUse(0, 0, 5);
        x.mayUse(1, 1, 5);
        x.seal();
        Check.equal("ceiling(0)", x.ceiling(0), 2);
        Check.equal("ceiling(2)", x.ceiling(2), 0);
    }

    // "Of all ready tasks the one with the greatest priority RUNS, of those with the same one that with the least
    // turn; none if none is ready."

    private static void greatestPriorityRunsWhateverTheTurn() {
        CeilingDispatch x = Scene.idle();
        x.release(0);
        x.release(2);
        Check.equal("running()", x.running(), 2);
        x.release(1);
        Check.equal("running()", x.running(), 1);
    }

    private static void leastTurnRunsWhateverTheNumber() {
        CeilingDispatch x = Scene.idle();
        x.release(4);
        x.release(2);
        x.release(3);
        Check.equal("first", x.running(), 4);
        x.finish();
        Check.equal("second", x.running(), 2);
        x.finish();
        Check.equal("third", x.running(), 3);
    }

    private static void aNewTurnComesBehind() {
        CeilingDispatch x = Scene.idle();
        x.release(2);
        x.release(3);
        x.finish();
        x.release(2);
        Check.equal("running()", x.running(), 3);
        Check.equal("place(2)", x.place(2), 1);
    }

    private static void samePriorityByACeilingIsByTurnToo() {
        CeilingDispatch x = Scene.holding();
        x.release(2);
        Check.equal("priority of both", x.priority(0), x.priority(2));
        Check.equal("running()", x.running(), 0);
    }

    private static void noneRunsIfNoneIsReady() {
        CeilingDispatch x = Scene.over();
        Check.none("running()", x.running());
        x.release(3);
        Check.equal("running()", x.running(), 3);
    }

    // "whenever something has changed, another task may run"

    private static void anotherRunsAfterAGive() {
        CeilingDispatch x = Scene.holding();
        x.release(2);
        x.give(1);
        Check.equal("running()", x.running(), 2);
    }

    private static void theSameRunsAfterAGiveThatLeavesItFirst() {
        CeilingDispatch x = Scene.holding();
        x.give(1);
        Check.equal("running()", x.running(), 0);
    }

    private static void theSameRunsAfterATake() {
        CeilingDispatch x = Scene.idle();
        x.release(2);
        x.release(3);
        x.take(1);
        Check.equal("running()", x.running(), 2);
    }

    private static void theSameRunsWhenTimePasses() {
        CeilingDispatch x = Scene.idle();
        x.release(2);
        x.release(3);
        x.pass(100);
        Check.equal("running()", x.running(), 2);
    }

    private static void theSameRunsAfterAReleaseOfOneLessUrgent() {
        CeilingDispatch x = Scene.idle();
        x.release(1);
        x.release(0);
        Check.equal("running()", x.running(), 1);
    }

    private static void oneRaisedIsNotPutOffByOneOfAGreaterBase() {
        CeilingDispatch x = Scene.one();
        x.take(0);
        x.release(2);
        Check.equal("running()", x.running(), 0);
    }

    private static void oneRaisedIsPutOffByOneOfAGreaterPriority() {
        CeilingDispatch x = Scene.holding();
        x.release(1);
        Check.equal("running()", x.running(), 1);
    }

    // "The CLOCK counts up from 0. When it goes on, the time that passes is added to the WORK of the task that runs"

    private static void workIsOfTheTaskThatRunsAlone() {
        CeilingDispatch x = Scene.one();
        x.release(2);
        x.pass(8);
        Check.equal("of the one that runs", x.spent(2, 0), 8);
        Check.equal("of one that waits", x.spent(0, 0), 0);
        Check.equal("of a dormant one", x.spent(3, 0), 0);
    }

    private static void workAddsUp() {
        CeilingDispatch x = Scene.one();
        x.pass(8);
        x.pass(0);
        x.pass(100);
        Check.equal("spent(0, 0)", x.spent(0, 0), 108);
    }

    private static void timeWhenNoneRunsIsNobodys() {
        CeilingDispatch x = Scene.idle();
        x.pass(9);
        for (int task = 0; task < 8; task++) {
            Check.equal("work", x.spent(task, 0), 0);
            Check.equal("delay", x.spent(task, 1), 0);
        }
        x.release(0);
        Check.equal("finish()", x.finish(), 0);
    }

    // "and to the DELAY of each ready task whose base is greater than that of the task that runs"

    // Task 0 of base 5 holds thing 0 of ceiling 16, task 1 of this base is ready: it is delayed for so long.
    private static int delayBesideBase5(int base) {
        CeilingDispatch x = new CeilingDispatch();
        x.declare(0, 5, 1, 1);
        x.declare(1, base, 1, 1);
        x.declare(2, 16, 1, 1);
        x.mayUse(0, 0, 1);
        x.mayUse(2, 0, 1);
        x.seal();
        x.release(0);
        x.take(0);
        x.release(1);
        x.pass(3);
        Check.equal("running()", x.running(), 0);
        return x.spent(1, 1);
    }

    private static void delayOfAGreaterBase() {
        Check.equal("base 6", delayBesideBase5(6), 3);
        Check.equal("base 16", delayBesideBase5(16), 3);
    }

    private static void noDelayOfTheSameBase() {
        Check.equal("base 5", delayBesideBase5(5), 0);
    }

    private static void noDelayOfALesserBase() {
        Check.equal("base 4", delayBesideBase5(4), 0);
    }

    private static void noDelayOfTheTaskThatRuns() {
        CeilingDispatch x = Scene.busy();
        x.pass(3);
        Check.equal("spent(1, 1)", x.spent(1, 1), 0);
    }

    private static void noDelayOfADormantTask() {
        CeilingDispatch x = Scene.one();
        x.pass(3);
        Check.equal("spent(1, 1)", x.spent(1, 1), 0);
    }

    private static void noDelayByATaskOfAGreaterBase() {
        CeilingDispatch x = Scene.busy();
        int before = x.spent(2, 1);
        x.pass(3);
        Check.equal("spent(2, 1)", x.spent(2, 1), before);
        Check.equal("of the raised one", x.spent(0, 1), 0);
    }

    private static void delayOfSeveralAtOnce() {
        CeilingDispatch x = Scene.one();
        x.take(0);
        x.release(1);
        x.release(2);
        x.pass(3);
        x.pass(4);
        Check.equal("spent(1, 1)", x.spent(1, 1), 7);
        Check.equal("spent(2, 1)", x.spent(2, 1), 7);
    }

    // Task 3 of base 1 holds thing 5 of ceiling 16, and all the others wait.
    private static void delayOfAllTheOthers() {
        CeilingDispatch x = new CeilingDispatch();
        for (int task = 0; task < 8; task++) {
            x.declare(task, task == 3 ? 1 : 16, 1, 1);
            x.mayUse(task, 5, 1);
        }
        x.seal();
        x.release(3);
        x.take(5);
        for (int task = 0; task < 8; task++) {
            if (task != 3) {
                x.release(task);
            }
        }
        x.pass(4);
        for (int task = 0; task < 8; task++) {
            Check.equal("delay", x.spent(task, 1), task == 3 ? 0 : 4);
        }
    }

    private static void delayOfNoTime() {
        CeilingDispatch x = Scene.one();
        x.take(0);
        x.release(1);
        x.pass(0);
        Check.equal("spent(1, 1)", x.spent(1, 1), 0);
    }

    private static void delayOfTimeBeforeTheReleaseIsNone() {
        CeilingDispatch x = Scene.one();
        x.take(0);
        x.pass(6);
        x.release(1);
        x.pass(3);
        Check.equal("spent(1, 1)", x.spent(1, 1), 3);
    }

    // "Work and delay are 0 when a task is released, and stay as they were when it is finished."

    // Task 1 was delayed for 3, worked for 2 and is finished; task 0 runs.
    private static CeilingDispatch finishedAfterADelay() {
        CeilingDispatch x = Scene.one();
        x.take(0);
        x.release(1);
        x.pass(3);
        x.give(0);
        x.pass(2);
        x.finish();
        return x;
    }

    private static void workStaysWhenFinished() {
        Check.equal("spent(1, 0)", finishedAfterADelay().spent(1, 0), 2);
    }

    private static void delayStaysWhenFinished() {
        Check.equal("spent(1, 1)", finishedAfterADelay().spent(1, 1), 3);
    }

    private static void workAndDelayStayWhileDormant() {
        CeilingDispatch x = finishedAfterADelay();
        x.pass(9);
        Check.equal("work of the other", x.finish(), 12);
        x.pass(9);
        Check.equal("spent(1, 0)", x.spent(1, 0), 2);
        Check.equal("spent(1, 1)", x.spent(1, 1), 3);
    }

    private static void workIsZeroWhenReleasedAgain() {
        CeilingDispatch x = finishedAfterADelay();
        x.release(1);
        Check.equal("spent(1, 0)", x.spent(1, 0), 0);
    }

    private static void delayIsZeroWhenReleasedAgain() {
        CeilingDispatch x = finishedAfterADelay();
        x.release(1);
        Check.equal("spent(1, 1)", x.spent(1, 1), 0);
    }

    private static void workOfOthersStaysAtARelease() {
        CeilingDispatch x = finishedAfterADelay();
        x.release(3);
        Check.equal("spent(0, 0)", x.spent(0, 0), 3);
        Check.equal("spent(1, 0)", x.spent(1, 0), 2);
        Check.equal("spent(1, 1)", x.spent(1, 1), 3);
    }

    private static void workStaysAtARefusedRelease() {
        CeilingDispatch x = Scene.one();
        x.pass(4);
        Check.same("release(0)", Check.thrownBy(() -> x.release(0)), Check.STATE);
        Check.equal("spent(0, 0)", x.spent(0, 0), 4);
    }
}
