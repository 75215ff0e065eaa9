import java.io.IOException;
import java.lang.reflect.InvocationTargetException;
import java.lang.reflect.Method;
import java.nio.file.Files;
import java.nio.file.Path;
import java.util.ArrayList;
import java.util.Arrays;
import java.util.Comparator;
import java.util.List;

/**
 * Runs the test of each sentence that names a boundary case. Each test quotes its sentence, and the quotation is looked
 * up in the document, so that a test can't outlive its sentence and no "Throws" line goes without a test.
 */
public final class BoundaryTest {
    private static final List<Class<?>> TESTS = List.of(TermsBounds.class, CommandBounds.class, ChangeBounds.class,
        CaseBounds.class, WitnessBounds.class, VerdictBounds.class, TextBounds.class, UndoBounds.class);

    public static void main(String[] arguments) throws IOException {
        List<Method> tests = testsNamed(arguments);
        for (Method test : tests) {
            runTest(test);
        }
        if (arguments.length == 0) {
            Check.about("quotations");
            compareWithDocument(tests);
        }
        Check.end();
    }

    /** All tests, or the one that an argument names. */
    private static List<Method> testsNamed(String[] arguments) {
        List<Method> tests = new ArrayList<>();
        for (Class<?> type : TESTS) {
            List<Method> own = new ArrayList<>(Arrays.asList(type.getDeclaredMethods()));
            own.removeIf(method -> method.getAnnotation(Boundary.class) == null);
            own.sort(Comparator.comparing(Method::getName));
            tests.addAll(own);
        }
        if (arguments.length > 0) {
            tests.removeIf(test -> !nameOf(test).equals(arguments[0]));
        }
        return tests;
    }

    private static String nameOf(Method test) {
        return test.getDeclaringClass().getName() + "." + test.getName();
    }

    private static void runTest(Method test) {
        String promises = Arrays.toString(test.getAnnotation(Boundary.class).promise());
        Check.about("promise " + promises + ", " + nameOf(test));
        int before = Check.lookedSoFar();
        try {
            test.invoke(null);
        } catch (InvocationTargetException e) {
            Check.due("a call that is not looked at", "nothing thrown", () -> String.valueOf(e.getCause()));
        } catch (IllegalAccessException e) {
            throw new AssertionError(e);
        }
        Check.due("looks at an answer", true, () -> Check.lookedSoFar() > before + 1);
    }

    private static void compareWithDocument(List<Method> tests) throws IOException {
        String[] sections = Files.readString(Path.of("../shared/DOC.md")).split("\n## ");
        for (Method test : tests) {
            Boundary boundary = test.getAnnotation(Boundary.class);
            Check.due(nameOf(test) + " quotes the document", true, () -> isQuoted(boundary, sections));
        }
        for (String section : sections) {
            for (String line : section.split("\n")) {
                if (section.startsWith("Promise ") && line.startsWith("Throws ")) {
                    Check.due(titleOf(section) + " has a test: " + line, true,
                        () -> isTested(numberOf(section), line, tests));
                }
            }
        }
    }

    private static boolean isQuoted(Boundary boundary, String[] sections) {
        for (String section : sections) {
            boolean isOwn = Arrays.stream(boundary.promise()).anyMatch(promise -> promise == numberOf(section));
            boolean isForAll = titleOf(section).equals("Terms") || titleOf(section).equals("What it is");
            if ((isOwn || isForAll) && section.replaceAll("\\s+", " ").contains(boundary.says())) {
                return true;
            }
        }
        return false;
    }

    private static boolean isTested(int promise, String line, List<Method> tests) {
        for (Method test : tests) {
            Boundary boundary = test.getAnnotation(Boundary.class);
            boolean isOwn = Arrays.stream(boundary.promise()).anyMatch(number -> number == promise);
            if (isOwn && line.contains(boundary.says())) {
                return true;
            }
        }
        return false;
    }

    private static String titleOf(String section) {
        return section.split("\n")[0];
    }

    private static int numberOf(String section) {
        String title = titleOf(section);
        return title.startsWith("Promise ") ? Integer.parseInt(title.split("[ :]")[1]) : 0;
    }
}
