import java.io.IOException;
import java.lang.reflect.Constructor;
import java.lang.reflect.Executable;
import java.lang.reflect.Field;
import java.lang.reflect.Method;
import java.lang.reflect.Modifier;
import java.nio.file.Files;
import java.nio.file.Path;
import java.util.ArrayList;
import java.util.Arrays;
import java.util.List;
import java.util.Set;
import java.util.TreeSet;
import java.util.stream.Collectors;

/** The class has the face that the document shows, with its throws clauses, and nothing else that is not private. */
public final class FaceTest {
    public static void main(String[] arguments) throws IOException {
        Set<String> shown = shownByDocument();
        Set<String> found = new TreeSet<>();
        for (Constructor<?> constructor : CaseManager.class.getDeclaredConstructors()) {
            addUnlessPrivate(found, constructor, "");
        }
        for (Method method : CaseManager.class.getDeclaredMethods()) {
            addUnlessPrivate(found, method, method.getReturnType().getName() + " ");
        }
        Check.due("the document shows 63 methods and a constructor", 64, shown::size);
        Check.due("the face", shown, () -> found);
        Check.due("fields that are not private", List.of(), FaceTest::openFields);
        Check.due("public and final", Modifier.PUBLIC | Modifier.FINAL, CaseManager.class::getModifiers);
        Check.due("private methods with a public method's name", List.of(), FaceTest::sharedNames);
        Check.end();
    }

    private static Set<String> shownByDocument() throws IOException {
        Set<String> shown = new TreeSet<>();
        for (String line : Files.readAllLines(Path.of("../shared/DOC.md"))) {
            if (line.startsWith("    public ") && line.endsWith(";")) {
                shown.add(withoutNames(line.strip().replace(";", "")));
            }
        }
        return shown;
    }

    private static String withoutNames(String line) {
        int from = line.indexOf('(');
        int to = line.indexOf(')');
        String types = Arrays.stream(line.substring(from + 1, to).split(", ")).map(p -> p.split(" ")[0])
                .collect(Collectors.joining(", "));
        return line.substring(0, from + 1) + types + line.substring(to);
    }

    private static void addUnlessPrivate(Set<String> found, Executable member, String answer) {
        if (Modifier.isPrivate(member.getModifiers())) {
            return;
        }
        String types = names(member.getParameterTypes(), false);
        String thrown = names(member.getExceptionTypes(), true);
        found.add(Modifier.toString(member.getModifiers()) + " " + answer + member.getName() + "(" + types + ")"
                + (thrown.isEmpty() ? "" : " throws " + thrown));
    }

    private static String names(Class<?>[] types, boolean isShort) {
        return Arrays.stream(types).map(t -> isShort ? t.getSimpleName() : t.getName())
                .collect(Collectors.joining(", "));
    }

    private static List<String> openFields() {
        List<String> open = new ArrayList<>();
        for (Field field : CaseManager.class.getDeclaredFields()) {
            if (!Modifier.isPrivate(field.getModifiers())) {
                open.add(field.getName());
            }
        }
        return open;
    }

    private static List<String> sharedNames() {
        Set<String> face = new TreeSet<>();
        for (Method method : CaseManager.class.getMethods()) {
            if (method.getDeclaringClass() == CaseManager.class) {
                face.add(method.getName());
            }
        }
        List<String> shared = new ArrayList<>();
        List<Class<?>> classes = new ArrayList<>(Arrays.asList(CaseManager.class.getDeclaredClasses()));
        classes.add(CaseManager.class);
        for (Class<?> one : classes) {
            for (Method method : one.getDeclaredMethods()) {
                if (!Modifier.isPublic(method.getModifiers()) && face.contains(method.getName())) {
                    shared.add(one.getName() + "." + method.getName());
                }
            }
        }
        return shared;
    }
}
