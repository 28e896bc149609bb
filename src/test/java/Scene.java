// Objects in the states that the tests begin with.
final class Scene {
    static final int LEAST = Integer.MIN_VALUE;
    static final int MOST = Integer.MAX_VALUE;
    // In the place of a thing and of a task in a note.
    static final int NO_THING = 15;
    static final int NO_TASK = 8;

    private Scene() {
    }

    // Not sealed. Task 0 of base 2, task 1 of base 9, tasks 2, 3 and 4 of base 5; 5, 6 and 7 are not declared.
    // Thing 0 will have ceiling 9, thing 1 ceiling 5, thing 2 ceiling 2; nobody may use the others.
    static CeilingDispatch open() {
        CeilingDispatch x = new CeilingDispatch();
        x.declare(0, 2, 3, 50);
        x.declare(1, 9, 2, 50);
        x.declare(2, 5, 4, 50);
        x.declare(3, 5, 4, 50);
        x.declare(4, 5, 4, 50);
        x.mayUse(0, 0, 7);
        x.mayUse(1, 0, 1);
        x.mayUse(0, 1, 4);
        x.mayUse(2, 1, 2);
        x.mayUse(0, 2, 4);
        return x;
    }

    // As open(), and sealed: nothing is ready.
    static CeilingDispatch idle() {
        CeilingDispatch x = open();
        x.seal();
        return x;
    }

    // Task 0, of base 2 and alone, runs and holds nothing.
    static CeilingDispatch one() {
        CeilingDispatch x = idle();
        x.release(0);
        return x;
    }

    // Task 0 runs and holds thing 2 and then thing 1, by which its priority is 5.
    static CeilingDispatch holding() {
        CeilingDispatch x = one();
        x.take(2);
        x.take(1);
        return x;
    }

    // Task 1 runs, holds thing 0; task 0 holds things 2 and 1, task 2 is ready, 3 and 4 are dormant;
    // the clock shows 7, and task 2 was delayed.
    static CeilingDispatch busy() {
        CeilingDispatch x = holding();
        x.release(2);
        x.pass(3);
        x.release(1);
        x.take(0);
        x.pass(4);
        return x;
    }

    // All is over: tasks 0 and 1 have been released and finished, none runs; the clock shows 5.
    static CeilingDispatch over() {
        CeilingDispatch x = one();
        x.pass(2);
        x.release(1);
        x.pass(3);
        x.finish();
        x.finish();
        return x;
    }

    // Task 7, the only one that is declared, runs and holds thing 5.
    static CeilingDispatch greatestNumbers() {
        CeilingDispatch x = new CeilingDispatch();
        x.declare(7, 1, 1, 1);
        x.mayUse(7, 5, 1);
        x.seal();
        x.release(7);
        x.take(5);
        return x;
    }
}
