import java.lang.reflect.InvocationTargetException;
import java.lang.reflect.Method;
import java.util.HashMap;
import java.util.Map;

/**
 * Runs written as rows "call(arguments) -> answer" on one new desk. An answer is a number or, for a
 * call that throws, IAE, NSE, UOE or ISE: the first letters of the exception's name.
 */
final class Runs {
    private static final Map<String, Method> METHODS = methodsByName();

    private static int calls = 0;
    private static int wrong = 0;

    private Runs() {
    }

    static void check(String title, String... rows) {
        RegistryDesk desk = new RegistryDesk();
        for (int i = 0; i < rows.length; i++) {
            String[] sides = rows[i].split(" -> ");
            String got = answerTo(desk, sides[0]);
            calls++;
            if (!isSame(got, sides[1])) {
                wrong++;
                System.out.println(title + ", row " + (i + 1) + ": " + sides[0] + " answered " + got
                        + ", due is " + sides[1]);
            }
        }
    }

    static void end() {
        System.out.println(calls + " calls, " + wrong + " answers are not as due");
        if (wrong != 0 || calls == 0) {
            System.exit(1);
        }
    }

    /** What a call written as text answers: the number, or the exception's letters. */
    static String answerTo(RegistryDesk desk, String call) {
        int open = call.indexOf('(');
        String name = call.substring(0, open);
        String inside = call.substring(open + 1, call.length() - 1);
        String[] texts = inside.isEmpty() ? new String[0] : inside.split(", ");
        Method method = METHODS.get(name);
        Class<?>[] types = method.getParameterTypes();
        Object[] values = new Object[texts.length];
        for (int i = 0; i < texts.length; i++) {
            values[i] = valueOf(types[i], texts[i]);
        }
        try {
            return String.valueOf(method.invoke(desk, values));
        } catch (InvocationTargetException e) {
            return letters(e.getCause());
        } catch (IllegalAccessException e) {
            throw new AssertionError(e);
        }
    }

    private static Map<String, Method> methodsByName() {
        Map<String, Method> found = new HashMap<>();
        for (Method method : RegistryDesk.class.getMethods()) {
            found.put(method.getName(), method);
        }
        return found;
    }

    private static Object valueOf(Class<?> type, String text) {
        if (type == double.class) {
            return Double.valueOf(text);
        }
        if (type == boolean.class) {
            return Boolean.valueOf(text);
        }
        return Integer.valueOf(text);
    }

    /** The classes themselves are compared: a class that extends one of them is not the one due. */
    private static String letters(Throwable thrown) {
        if (thrown.getClass() == IllegalArgumentException.class) {
            return "IAE";
        }
        if (thrown.getClass() == java.util.NoSuchElementException.class) {
            return "NSE";
        }
        if (thrown.getClass() == UnsupportedOperationException.class) {
            return "UOE";
        }
        if (thrown.getClass() == IllegalStateException.class) {
            return "ISE";
        }
        return thrown.toString();
    }

    private static boolean isSame(String got, String due) {
        if (got.equals(due)) {
            return true;
        }
        try {
            return Double.parseDouble(got) == Double.parseDouble(due);
        } catch (NumberFormatException e) {
            return false;
        }
    }
}
