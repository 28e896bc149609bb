import java.util.function.IntSupplier;

// Many runs of at most 512 calls, each answer held against PlainModel's. The numbers are made by a fixed rule,
// so that every run of this test makes the same calls.
public final class ModelTest {
    private static final int RUNS = 4000;
    private static final int CALLS = 512;

    private long seed;
    private final CeilingDispatch program = new CeilingDispatch();
    private final PlainModel model = new PlainModel();

    private ModelTest(long seed) {
        this.seed = seed;
    }

    public static void main(String[] args) {
        Check.runAll(ModelTest.class);
    }

    private static void runsAgreeWithTheModel() {
        for (int run = 1; run <= RUNS; run++) {
            Check.isTrue("run " + run + " agrees with the model", new ModelTest(run).agrees(run));
        }
    }

    private boolean agrees(int run) {
        int setUp = below(60);
        // Most runs are right in most of their numbers, else they would not get far; some are wild.
        int wild = run % 10 == 0 ? 50 : 8;
        for (int i = 0; i < CALLS; i++) {
            boolean same = i < setUp ? setUpCall(wild) : i == setUp ? seals() : laterCall(wild);
            if (!same) {
                System.out.println("run " + run + ", call " + i + " differs");
                return false;
            }
        }
        return true;
    }

    private int below(int bound) {
        seed = seed * 6364136223846793005L + 1442695040888963407L;
        return (int) Math.floorMod(seed >>> 33, (long) bound);
    }

    private int number(int least, int most, int wild) {
        if (below(100) >= wild) {
            return least + below(most - least + 1);
        }
        int[] edges = {least - 1, least, most, most + 1, Integer.MIN_VALUE, Integer.MAX_VALUE, -1, 0};
        return edges[below(edges.length)];
    }

    private boolean setUpCall(int wild) {
        int task = number(0, 7, wild);
        int kind = below(10);
        if (kind < 4) {
            int base = below(2) == 0 ? number(1, 16, wild) : 3 + below(3);
            int cost = below(2) == 0 ? number(1, 50, wild) : 1 + below(4);
            int period = number(1, 200, wild);
            return same(() -> done(() -> program.declare(task, base, cost, period)),
                    () -> done(() -> model.declare(task, base, cost, period)));
        }
        if (kind < 9) {
            int thing = number(0, 5, wild);
            int length = number(1, 50, wild);
            return same(() -> done(() -> program.mayUse(task, thing, length)),
                    () -> done(() -> model.mayUse(task, thing, length)));
        }
        return below(2) == 0 ? asks(wild) : laterCall(wild);
    }

    private static int done(Runnable call) {
        call.run();
        return 0;
    }

    private boolean seals() {
        return same(program::seal, model::seal);
    }

    private boolean laterCall(int wild) {
        int task = number(0, 7, wild);
        int thing = number(0, 5, wild);
        switch (below(12)) {
            case 0: case 1:
                return same(() -> program.release(task), () -> model.release(task));
            case 2: case 3: case 4:
                return same(() -> program.take(thing), () -> model.take(thing));
            case 5:
                return same(() -> program.give(thing), () -> model.give(thing));
            case 6:
                return givesLast();
            case 7:
                return same(program::finish, model::finish);
            case 8:
                int n = number(0, 100, wild);
                return same(() -> program.pass(n), () -> model.pass(n));
            case 9:
                return below(20) == 0 ? seals() : below(20) == 0 ? setUpCall(wild) : asks(wild);
            default:
                return asks(wild);
        }
    }

    // Else few things would be given back, and tasks would seldom finish.
    private boolean givesLast() {
        int what = model.note(0);
        int thing = what < 0 ? 0 : what / 256 % 16;
        return same(() -> program.give(thing), () -> model.give(thing));
    }

    private boolean asks(int wild) {
        int task = number(0, 7, wild);
        int thing = number(0, 5, wild);
        int what = number(0, 1, wild);
        int k = number(0, 40, wild);
        switch (below(10)) {
            case 0: return same(program::running, model::running);
            case 1: return same(() -> program.priority(task), () -> model.priority(task));
            case 2: return same(() -> program.place(task), () -> model.place(task));
            case 3: return same(() -> program.ceiling(thing), () -> model.ceiling(thing));
            case 4: return same(() -> program.holder(thing), () -> model.holder(thing));
            case 5: return same(() -> program.spent(task, what), () -> model.spent(task, what));
            case 6: return same(() -> program.blocking(task), () -> model.blocking(task));
            case 7: return same(() -> program.response(task), () -> model.response(task));
            case 8: return same(program::notes, model::notes);
            default: return same(() -> program.note(k), () -> model.note(k));
        }
    }

    private static boolean same(IntSupplier program, IntSupplier model) {
        String got = Check.answer(program);
        String due = Check.answer(model);
        if (!got.equals(due)) {
            System.out.println("answered " + got + ", due is " + due);
        }
        return got.equals(due);
    }
}
