// What the tests of the project share: counting wrong answers, telling which exception a call throws,
// and reading everything that an object shows.
final class Check {
    interface Call {
        void run();
    }

    static final String STATE = "IllegalStateException";
    static final String ARGUMENT = "IllegalArgumentException";

    private static int wrong = 0;

    private Check() {
    }

    static void equal(String call, long got, long due) {
        if (got != due) {
            wrong++;
            System.out.println(call + " answered " + got + ", due is " + due);
        }
    }

    static void isTrue(String what, boolean holds) {
        if (!holds) {
            wrong++;
            System.out.println("does not hold: " + what);
        }
    }

    static void same(String what, String got, String due) {
        if (!got.equals(due)) {
            wrong++;
            System.out.println(what + ": got " + got + ", due is " + due);
        }
    }

    static String thrownBy(Call call) {
        try {
            call.run();
        } catch (RuntimeException e) {
            return e.getClass().getSimpleName();
        }
        return "nothing";
    }

    // The call must throw this, and the object must show the same as before.
    static void refused(String what, CeilingDispatch x, String exception, Call call) {
        String before = shown(x);
        same(what + " throws", thrownBy(call), exception);
        same(what + " changes nothing", shown(x), before);
    }

    // 103 calls: an object stands four of these within its 512.
    static String shown(CeilingDispatch x) {
        StringBuilder all = new StringBuilder();
        all.append(x.pass(0)).append(' ').append(x.running());
        for (int task = 0; task < 8; task++) {
            all.append(" task").append(task).append(' ').append(x.priority(task)).append(' ').append(x.place(task));
            all.append(' ').append(x.spent(task, 0)).append(' ').append(x.spent(task, 1));
            all.append(' ').append(x.blocking(task)).append(' ').append(x.response(task));
        }
        for (int thing = 0; thing < 6; thing++) {
            all.append(" thing").append(thing).append(' ').append(x.ceiling(thing)).append(' ').append(x.holder(thing));
        }
        all.append(" notes ").append(x.notes());
        for (int k = 0; k < 40; k++) {
            all.append(' ').append(x.note(k));
        }
        return all.toString();
    }

    static int noteOf(int clock, int thing, int task, int what) {
        return 4096 * clock + 256 * thing + 16 * task + what;
    }

    static void end() {
        if (wrong != 0) {
            System.out.println(wrong + " answers are not as due");
            System.exit(1);
        }
    }
}
