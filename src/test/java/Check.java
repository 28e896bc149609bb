import java.lang.reflect.InvocationTargetException;
import java.lang.reflect.Method;
import java.lang.reflect.Modifier;
import java.util.Arrays;
import java.util.Comparator;
import java.util.function.Consumer;
import java.util.function.IntSupplier;
import java.util.function.Supplier;

// What the tests of the project share: running a class's tests, counting wrong answers, telling which exception
// a call throws, and reading everything that an object shows.
final class Check {
    static final String STATE = "IllegalStateException";
    static final String ARGUMENT = "IllegalArgumentException";

    private static int wrong = 0;
    private static String current = "";

    private Check() {
    }

    // Each static method without parameters and answer is a test: none can be written and then forgotten in a list.
    static void runAll(Class<?> tests) {
        Method[] methods = tests.getDeclaredMethods();
        Arrays.sort(methods, Comparator.comparing(Method::getName));
        int run = 0;
        for (Method m : methods) {
            if (isTest(m)) {
                runOne(m);
                run++;
            }
        }
        System.out.println(run + " tests, " + wrong + " wrong answers");
        if (wrong != 0 || run == 0) {
            System.exit(1);
        }
    }

    private static boolean isTest(Method m) {
        return Modifier.isStatic(m.getModifiers()) && !m.isSynthetic()
                && m.getParameterCount() == 0 && m.getReturnType() == void.class;
    }

    private static void runOne(Method test) {
        current = test.getName();
        try {
            test.setAccessible(true);
            test.invoke(null);
        } catch (InvocationTargetException e) {
            tell("ended by " + e.getCause());
        } catch (IllegalAccessException e) {
            tell("could not be run");
        }
    }

    private static void tell(String what) {
        wrong++;
        System.out.println(current + ": " + what);
    }

    static void equal(String call, long got, long due) {
        if (got != due) {
            tell(call + " answered " + got + ", due is " + due);
        }
    }

    static void none(String call, long got) {
        equal(call, got, CeilingDispatch.NONE);
    }

    static void isTrue(String what, boolean holds) {
        if (!holds) {
            tell("does not hold: " + what);
        }
    }

    static void same(String what, String got, String due) {
        if (!got.equals(due)) {
            tell(what + ": got " + got + ", due is " + due);
        }
    }

    static String thrownBy(Runnable call) {
        try {
            call.run();
        } catch (RuntimeException e) {
            return e.getClass().getSimpleName();
        }
        return "nothing";
    }

    // The call must throw this; and all that the object shows and does afterwards must be what it is of a twin
    // that was never asked for it.
    static void refused(String exception, Supplier<CeilingDispatch> scene, Consumer<CeilingDispatch> call) {
        CeilingDispatch asked = scene.get();
        CeilingDispatch twin = scene.get();
        same("it throws", thrownBy(() -> call.accept(asked)), exception);
        same("it changes nothing", shownAndDone(asked), shownAndDone(twin));
    }

    static void accepted(Supplier<CeilingDispatch> scene, Consumer<CeilingDispatch> call) {
        CeilingDispatch asked = scene.get();
        same("it throws", thrownBy(() -> call.accept(asked)), "nothing");
    }

    // Some 480 calls: with its scene before it an object stays within its 512.
    private static String shownAndDone(CeilingDispatch x) {
        StringBuilder all = new StringBuilder(shown(x));
        // Where it is sealed, a second seal() would itself be a refused call, and hide what the one in question did.
        if (x.ceiling(0) == CeilingDispatch.NONE) {
            all.append(" seal ").append(answer(x::seal)).append(shown(x));
        }
        for (int task = 0; task < 8; task++) {
            int released = task;
            all.append(" release ").append(answer(() -> x.release(released)));
        }
        for (int round = 0; round < 8; round++) {
            all.append(takenAndGiven(x));
            all.append(" pass ").append(answer(() -> x.pass(1))).append(" finish ").append(answer(x::finish));
        }
        return all.append(shown(x)).toString();
    }

    // What is given back goes from the greatest number down and twice, as the scenes' holder of two things took the
    // greater one first.
    private static String takenAndGiven(CeilingDispatch x) {
        StringBuilder all = new StringBuilder();
        for (int thing = 0; thing < 6; thing++) {
            int taken = thing;
            all.append(" take ").append(answer(() -> x.take(taken)));
        }
        for (int give = 0; give < 12; give++) {
            int given = 5 - give % 6;
            all.append(" give ").append(answer(() -> x.give(given)));
        }
        return all.toString();
    }

    static String answer(IntSupplier call) {
        try {
            return Integer.toString(call.getAsInt());
        } catch (RuntimeException e) {
            return e.getClass().getSimpleName();
        }
    }

    // 103 calls.
    private static String shown(CeilingDispatch x) {
        StringBuilder all = new StringBuilder();
        all.append(x.pass(0)).append(' ').append(x.running());
        for (int task = 0; task < 8; task++) {
            all.append(" task").append(task).append(' ').append(x.priority(task)).append(' ').append(x.place(task));
            all.append(' ').append(x.spent(task, 0)).append(' ').append(x.spent(task, 1));
            all.append(' ').append(x.blocking(task)).append(' ').append(x.response(task));
        }
        for (int thing = 0; thing < 6; thing++) {
            all.append(" thing").append(thing).append(' ').append(x.ceiling(thing)).append(' ').append(x.holder(thing));
        }
        all.append(" notes ").append(x.notes());
        for (int k = 0; k < 40; k++) {
            all.append(' ').append(x.note(k));
        }
        return all.toString();
    }

    // Note k from the latest one backwards, put together as the document says.
    static void noted(CeilingDispatch x, int k, int clock, int thing, int task, int what) {
        equal("note(" + k + ")", x.note(k), 4096 * clock + 256 * thing + 16 * task + what);
    }
}
