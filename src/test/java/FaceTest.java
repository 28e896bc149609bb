import java.lang.reflect.Constructor;
import java.lang.reflect.Field;
import java.lang.reflect.Method;
import java.lang.reflect.Modifier;
import java.util.Arrays;
import java.util.TreeSet;

// The public face of the document, and rule 1 of LANGUAGE.md: nothing else can be seen from outside.
public final class FaceTest {
    private static final String STATE = " throws IllegalStateException";
    private static final String ARGUMENT = " throws IllegalArgumentException";
    private static final String BOTH = STATE + ", IllegalArgumentException";
    private static final String[] METHODS = {
        "void declare(int, int, int, int)" + BOTH, "void mayUse(int, int, int)" + BOTH, "int seal()" + STATE,
        "int release(int)" + BOTH, "int take(int)" + BOTH, "int give(int)" + BOTH, "int finish()" + STATE,
        "int pass(int)" + ARGUMENT, "int running()", "int priority(int)", "int place(int)", "int ceiling(int)",
        "int holder(int)", "int spent(int, int)", "int blocking(int)", "int response(int)", "int notes()",
        "int note(int)",
    };
    private static final String[] CONSTANTS = {
        "NONE=-1", "RELEASED=1", "TAKEN=2", "GIVEN=3", "FINISHED=4", "RUNS=5",
    };

    public static void main(String[] args) {
        Check.runAll(FaceTest.class);
    }

    private static void classItself() {
        int modifiers = CeilingDispatch.class.getModifiers();
        Check.isTrue("public and final", Modifier.isPublic(modifiers) && Modifier.isFinal(modifiers));
    }

    private static void methods() {
        TreeSet<String> seen = new TreeSet<>();
        TreeSet<String> names = new TreeSet<>();
        for (Method m : CeilingDispatch.class.getDeclaredMethods()) {
            if (Modifier.isPublic(m.getModifiers())) {
                seen.add(written(m));
                names.add(m.getName());
                Check.isTrue("not static: " + m.getName(), !Modifier.isStatic(m.getModifiers()));
            }
        }
        Check.same("methods", seen.toString(), new TreeSet<>(Arrays.asList(METHODS)).toString());
        for (Method m : CeilingDispatch.class.getDeclaredMethods()) {
            if (!Modifier.isPublic(m.getModifiers())) {
                Check.isTrue("private: " + m, Modifier.isPrivate(m.getModifiers()));
                Check.isTrue("has a name of its own: " + m, !names.contains(m.getName()));
            }
        }
    }

    private static String written(Method m) {
        String parameters = Arrays.stream(m.getParameterTypes()).map(Class::getSimpleName).toList().toString();
        String thrown = Arrays.stream(m.getExceptionTypes()).map(Class::getSimpleName).toList().toString();
        return m.getReturnType().getSimpleName() + " " + m.getName() + "(" + inner(parameters) + ")"
                + (thrown.equals("[]") ? "" : " throws " + inner(thrown));
    }

    private static String inner(String list) {
        return list.substring(1, list.length() - 1);
    }

    private static void constants() throws IllegalAccessException {
        TreeSet<String> seen = new TreeSet<>();
        for (Field f : CeilingDispatch.class.getDeclaredFields()) {
            int m = f.getModifiers();
            if (Modifier.isPublic(m)) {
                seen.add(f.getName() + "=" + f.getInt(null));
            } else {
                Check.isTrue("private: " + f, Modifier.isPrivate(m));
            }
            Check.isTrue("no static state: " + f, !Modifier.isStatic(m) || Modifier.isFinal(m));
        }
        Check.same("constants", seen.toString(), new TreeSet<>(Arrays.asList(CONSTANTS)).toString());
    }

    private static void constructors() {
        Constructor<?>[] all = CeilingDispatch.class.getDeclaredConstructors();
        Check.equal("constructors", all.length, 1);
        Check.isTrue("public", Modifier.isPublic(all[0].getModifiers()));
        Check.equal("parameters of the constructor", all[0].getParameterCount(), 0);
    }

    private static void classesInside() {
        for (Class<?> c : CeilingDispatch.class.getDeclaredClasses()) {
            int m = c.getModifiers();
            Check.isTrue("static and not public: " + c,
                    Modifier.isStatic(m) && !Modifier.isPublic(m) && !Modifier.isProtected(m));
        }
    }
}
