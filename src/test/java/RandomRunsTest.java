import java.lang.reflect.InvocationTargetException;
import java.lang.reflect.Method;
import java.lang.reflect.Modifier;
import java.util.ArrayList;
import java.util.Comparator;
import java.util.List;

/** Runs of calls drawn by a fixed sequence of numbers, each answer compared with the model's. */
public final class RandomRunsTest {
    private static final int RUNS = 1500;
    private static final int CALLS = 512;
    private static final int[] WILD = {-1, 5, 6, 8, 9, 10, 16, 17, 95, 126, 127, -16, 1 << 30,
        Integer.MIN_VALUE, Integer.MAX_VALUE};
    private static final String[] COMMANDS = {"charge D D", "charge P O", "witness D", "testify C WSD", "testify C WS3",
        "testify 0C WS2", "question C WA", "decide C", "appeal C", "close C", "close 0C", "decide DD"};

    private static long seed = 20261119L;

    private static final List<Method> CHANGES = new ArrayList<>();
    private static final List<Method> READERS = new ArrayList<>();

    public static void main(String[] arguments) {
        for (Method method : CaseManager.class.getDeclaredMethods()) {
            if (Modifier.isPublic(method.getModifiers())) {
                (isChange(method.getName()) ? CHANGES : READERS).add(method);
            }
        }
        // getDeclaredMethods gives no order; the runs are to be the same each time.
        CHANGES.sort(Comparator.comparing(Method::getName));
        READERS.sort(Comparator.comparing(Method::getName));
        for (int run = 0; run < RUNS && Check.wrongSoFar() == 0; run++) {
            runOnce(run);
        }
        Check.end();
    }

    private static boolean isChange(String name) {
        return List.of("charge", "addWitness", "testify", "question", "decide", "appeal", "close").contains(name);
    }

    private static int draw(int bound) {
        seed = seed * 6364136223846793005L + 1442695040888963407L;
        return (int) ((seed >>> 33) % bound);
    }

    private static void runOnce(int run) {
        CaseManager x = new CaseManager();
        Model model = new Model();
        StringBuilder trace = new StringBuilder("run " + run);
        String typed = "";
        for (int call = 0; call < CALLS && Check.wrongSoFar() == 0; call++) {
            if (!typed.isEmpty()) {
                compare(x, model, method("append"), new int[] {typed.charAt(0), 0, 0, 0}, trace);
                typed = typed.substring(1);
                if (typed.isEmpty()) {
                    compare(x, model, method("run"), new int[4], trace);
                }
                continue;
            }
            int choice = draw(100);
            if (choice < 2) {
                typed = program();
            } else if (choice < 40) {
                Method change = CHANGES.get(draw(CHANGES.size()));
                compare(x, model, change, numbers(), trace);
            } else {
                compare(x, model, READERS.get(draw(READERS.size())), numbers(), trace);
            }
        }
    }

    private static Method method(String name) {
        for (Method method : READERS) {
            if (method.getName().equals(name)) {
                return method;
            }
        }
        throw new IllegalStateException(name);
    }

    private static int[] numbers() {
        int[] numbers = {draw(6), draw(5), draw(2), 1 + draw(5)};
        if (draw(3) == 0) {
            numbers[0] = draw(16);
        }
        if (draw(3) == 0) {
            numbers[1] = draw(8);
        }
        if (draw(12) == 0) {
            numbers[draw(4)] = WILD[draw(WILD.length)];
        }
        numbers[2] = numbers[2] & 1;
        return numbers;
    }

    private static String program() {
        StringBuilder text = new StringBuilder();
        int commands = 1 + draw(5);
        for (int i = 0; i < commands; i++) {
            text.append(i > 0 ? ";" : "").append(filled(COMMANDS[draw(COMMANDS.length)]));
        }
        int fault = draw(8);
        if (fault == 0) {
            text.setLength(1 + draw(text.length()));
        } else if (fault == 1) {
            text.setCharAt(draw(text.length()), ";+-!? 07a".charAt(draw(9)));
        } else if (fault == 2) {
            text.deleteCharAt(draw(text.length()));
        } else if (fault == 3) {
            text.insert(draw(text.length() + 1), ";+-!? 07a".charAt(draw(9)));
        }
        return text.toString();
    }

    private static String filled(String form) {
        StringBuilder text = new StringBuilder();
        for (char c : form.toCharArray()) {
            switch (c) {
                case 'D' -> text.append(draw(10));
                case 'P' -> text.append(draw(6));
                case 'O' -> text.append(draw(5));
                case 'C' -> text.append(draw(6));
                case 'W' -> text.append(draw(5));
                case 'S' -> text.append(draw(2) == 0 ? '+' : '-');
                case 'A' -> text.append(draw(2) == 0 ? '!' : '?');
                default -> text.append(c);
            }
        }
        return text.toString();
    }

    private static void compare(CaseManager x, Model model, Method method, int[] numbers, StringBuilder trace) {
        Class<?>[] types = method.getParameterTypes();
        Object[] given = new Object[types.length];
        int[] told = numbers.clone();
        for (int i = 0; i < types.length; i++) {
            boolean isFlag = types[i] == boolean.class;
            told[i] = isFlag ? numbers[i] & 1 : types[i] == char.class ? numbers[i] & 0xFFFF : numbers[i];
            given[i] = isFlag ? (Object) (told[i] == 1) : types[i] == char.class ? (Object) (char) told[i] : told[i];
            trace.append(i == 0 ? ' ' : ',').append(told[i]);
        }
        trace.append(' ').append(method.getName());
        Object want = wanted(model, method.getName(), told);
        Check.due(trace.substring(Math.max(0, trace.length() - 3000)), want, () -> invoked(x, method, given));
    }

    private static Object wanted(Model model, String name, int[] told) {
        try {
            return model.answer(name, told[0], told[1], told[2], told[3]);
        } catch (RuntimeException e) {
            return e.getClass();
        }
    }

    private static Object invoked(CaseManager x, Method method, Object[] given) {
        try {
            return method.invoke(x, given);
        } catch (InvocationTargetException e) {
            if (e.getCause() instanceof RuntimeException cause) {
                throw cause;
            }
            throw new AssertionError(e.getCause());
        } catch (IllegalAccessException e) {
            throw new AssertionError(e);
        }
    }
}
