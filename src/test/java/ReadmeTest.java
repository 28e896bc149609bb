import java.io.IOException;
import java.lang.reflect.InvocationTargetException;
import java.lang.reflect.Method;
import java.lang.reflect.Modifier;
import java.nio.file.Files;
import java.nio.file.Path;
import java.util.ArrayList;
import java.util.Arrays;
import java.util.List;
import java.util.TreeSet;
import java.util.regex.Matcher;
import java.util.regex.Pattern;

// What README.md says is so in the project as it stands.
public final class ReadmeTest {
    private static final Pattern CALL = Pattern.compile("x\\.(\\w+)\\(([^)]*)\\);\\s*// (.*)");
    private static final Pattern TOLD = Pattern.compile("-> (-?\\d+)\\b.*|throws (\\w+).*");
    private static final Pattern ROW_OF_CALL = Pattern.compile("\\| `(\\w+)\\(([^)]*)\\)` \\|(.*)\\|");
    private static final Pattern ROW_OF_FILE = Pattern.compile("\\| `([A-Z]\\w+)` \\|.*");

    public static void main(String[] args) {
        Check.runAll(ReadmeTest.class);
    }

    private static List<String> lines() throws IOException {
        return Files.readAllLines(Path.of("README.md"));
    }

    private static void theExampleAnswersWhatItSays() throws IOException {
        CeilingDispatch x = new CeilingDispatch();
        int calls = 0;
        for (String line : lines()) {
            Matcher call = CALL.matcher(line);
            if (call.matches()) {
                Check.same(line, answered(x, call.group(1), call.group(2)), told(call.group(3)));
                calls++;
            }
            Check.isTrue("no call is passed over: " + line, call.matches() || !line.startsWith("x."));
        }
        Check.isTrue("there is an example", calls > 0);
    }

    private static String told(String comment) {
        Matcher told = TOLD.matcher(comment);
        if (!told.matches()) {
            return "nothing";
        }
        return told.group(1) == null ? told.group(2) : told.group(1);
    }

    private static String answered(CeilingDispatch x, String name, String arguments) {
        Object[] numbers = names(arguments).stream().map(Integer::valueOf).toArray();
        try {
            Object answer = method(name).invoke(x, numbers);
            return answer == null ? "nothing" : answer.toString();
        } catch (InvocationTargetException e) {
            return e.getCause().getClass().getSimpleName();
        } catch (IllegalAccessException e) {
            return "out of reach";
        }
    }

    private static List<String> names(String list) {
        return list.isEmpty() ? List.of() : Arrays.asList(list.split(", "));
    }

    private static List<Method> face() {
        List<Method> all = new ArrayList<>();
        for (Method m : CeilingDispatch.class.getDeclaredMethods()) {
            if (Modifier.isPublic(m.getModifiers())) {
                all.add(m);
            }
        }
        return all;
    }

    private static Method method(String name) {
        for (Method m : face()) {
            if (m.getName().equals(name)) {
                return m;
            }
        }
        throw new IllegalArgumentException("no such method: " + name);
    }

    private static void theTablesOfCallsAreTheFace() throws IOException {
        TreeSet<String> told = new TreeSet<>();
        for (String line : lines()) {
            Matcher row = ROW_OF_CALL.matcher(line);
            if (row.matches()) {
                told.add(row.group(1) + " of " + names(row.group(2)).size() + exceptionsTold(row.group(3)));
            }
        }
        TreeSet<String> due = new TreeSet<>();
        for (Method m : face()) {
            List<String> thrown = Arrays.stream(m.getExceptionTypes()).map(Class::getSimpleName).toList();
            due.add(m.getName() + " of " + m.getParameterCount() + thrown);
        }
        Check.same("calls", told.toString(), due.toString());
    }

    // Of the table with four columns, the last two say when a call throws; '-' stands for never.
    private static List<String> exceptionsTold(String row) {
        String[] cells = row.split("\\|");
        List<String> thrown = new ArrayList<>();
        if (cells.length == 3 && !cells[1].equals(" - ")) {
            thrown.add(Check.STATE);
        }
        if (cells.length == 3 && !cells[2].equals(" - ")) {
            thrown.add(Check.ARGUMENT);
        }
        return thrown;
    }

    private static void theTablesOfFilesAreTheProjects() throws IOException {
        TreeSet<String> told = new TreeSet<>();
        for (String line : lines()) {
            Matcher row = ROW_OF_FILE.matcher(line);
            if (row.matches()) {
                told.add(row.group(1) + ".java");
            }
        }
        TreeSet<String> due = new TreeSet<>();
        try (var files = Files.list(Path.of("src/test/java"))) {
            files.forEach(file -> due.add(file.getFileName().toString()));
        }
        Check.same("files", told.toString(), due.toString());
    }

    private static void whatItSaysToRunIsThere() {
        Check.isTrue(".ci/run can be run", Files.isExecutable(Path.of(".ci/run")));
        Check.isTrue("the program", Files.exists(Path.of("src/main/java/CeilingDispatch.java")));
        Check.isTrue("the tests of others", Files.isDirectory(Path.of("../shared/tests")));
    }

    private static void theProgramHasNoPackageAndNoImport() throws IOException {
        for (String line : Files.readAllLines(Path.of("src/main/java/CeilingDispatch.java"))) {
            Check.isTrue(line, !line.startsWith("package ") && !line.startsWith("import "));
        }
    }
}
