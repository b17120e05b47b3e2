import java.lang.reflect.InvocationTargetException;
import java.lang.reflect.Method;
import java.util.ArrayList;
import java.util.HashMap;
import java.util.List;
import java.util.Map;

/**
 * Runs written as rows "call(arguments) -> answer" on one new desk. An answer is a number or, for a
 * call that throws, IAE, NSE, UOE or ISE: the first letters of the exception's name. Of each call
 * that throws it is looked at, too, that it changes nothing that any call shows.
 */
final class Runs {
    private static final Map<Class<?>, Map<String, Method>> METHODS = new HashMap<>();

    private static int calls = 0;
    private static int refused = 0;
    private static int wrong = 0;

    private Runs() {
    }

    static void check(String title, String... rows) {
        RegistryDesk desk = new RegistryDesk();
        List<String> taken = new ArrayList<>();
        String before = null;
        for (int i = 0; i < rows.length; i++) {
            String[] sides = rows[i].split(" -> ");
            String got = answerTo(desk, sides[0]);
            calls++;
            if (!isSame(got, sides[1])) {
                tell(title, i, sides[0] + " answered " + got + ", due is " + sides[1]);
            }
            if (isRefusal(got)) {
                refused++;
                before = before == null ? Sights.of(taken, null) : before;
                if (!before.equals(Sights.of(taken, sides[0]))) {
                    tell(title, i, sides[0] + " threw and changed something: "
                            + Sights.difference(before, Sights.of(taken, sides[0])));
                }
            } else if (!Sights.onlyLooks(sides[0])) {
                taken.add(sides[0]);
                before = null;
            }
        }
    }

    static void dueSame(String title, String one, String other) {
        calls++;
        if (!one.equals(other)) {
            tell(title, 0, Sights.difference(one, other));
        }
    }

    static void end() {
        System.out.println(calls + " calls, " + refused + " of them refused; " + wrong
                + " are not as due");
        if (wrong != 0 || calls == 0) {
            System.exit(1);
        }
    }

    static String[] joined(String[] first, String... then) {
        String[] all = new String[first.length + then.length];
        System.arraycopy(first, 0, all, 0, first.length);
        System.arraycopy(then, 0, all, first.length, then.length);
        return all;
    }

    static boolean isRefusal(String answer) {
        return answer.equals("IAE") || answer.equals("NSE") || answer.equals("UOE")
                || answer.equals("ISE");
    }

    /** What a call written as text answers: the number, or the exception's letters. */
    static String answerTo(Object desk, String call) {
        int open = call.indexOf('(');
        String inside = call.substring(open + 1, call.length() - 1);
        String[] texts = inside.isEmpty() ? new String[0] : inside.split(", ");
        Method method = methodsOf(desk.getClass()).get(call.substring(0, open));
        Class<?>[] types = method.getParameterTypes();
        Object[] values = new Object[texts.length];
        for (int i = 0; i < texts.length; i++) {
            values[i] = valueOf(types[i], texts[i]);
        }
        try {
            return String.valueOf(method.invoke(desk, values));
        } catch (InvocationTargetException e) {
            return letters(e.getCause());
        } catch (IllegalAccessException e) {
            throw new AssertionError(e);
        }
    }

    static boolean isSame(String got, String due) {
        if (got.equals(due)) {
            return true;
        }
        try {
            return Double.parseDouble(got) == Double.parseDouble(due);
        } catch (NumberFormatException e) {
            return false;
        }
    }

    private static void tell(String title, int row, String fault) {
        wrong++;
        System.out.println(title + ", row " + (row + 1) + ": " + fault);
    }

    private static Map<String, Method> methodsOf(Class<?> type) {
        return METHODS.computeIfAbsent(type, Runs::methodsByName);
    }

    private static Map<String, Method> methodsByName(Class<?> type) {
        Map<String, Method> found = new HashMap<>();
        for (Method method : type.getMethods()) {
            found.put(method.getName(), method);
        }
        return found;
    }

    private static Object valueOf(Class<?> type, String text) {
        if (type == double.class) {
            return Double.valueOf(text);
        }
        if (type == boolean.class) {
            return Boolean.valueOf(text);
        }
        return Integer.valueOf(text);
    }

    /** The classes themselves are compared: a class that extends one of them is not the one due. */
    private static String letters(Throwable thrown) {
        if (thrown.getClass() == IllegalArgumentException.class) {
            return "IAE";
        }
        if (thrown.getClass() == java.util.NoSuchElementException.class) {
            return "NSE";
        }
        if (thrown.getClass() == UnsupportedOperationException.class) {
            return "UOE";
        }
        if (thrown.getClass() == IllegalStateException.class) {
            return "ISE";
        }
        return thrown.toString();
    }
}
