import java.lang.reflect.Constructor;
import java.lang.reflect.Field;
import java.lang.reflect.Method;
import java.lang.reflect.Modifier;
import java.util.Arrays;
import java.util.Set;
import java.util.TreeSet;

/** The public face is the document's, and nothing else can be seen from outside. */
public final class FaceTest {
    private static final String[] METHODS = {
        "int price(int, double)", "double deposit(int, double)", "int contact(int)",
        "int host(int, int, int)", "int remove(int, int, int)",
        "int create(int, int, int, int, int)", "int change(int, int, int, int, boolean)",
        "int lock(int, int, int)", "int renew(int, int, int)", "int delete(int, int)",
        "int restore(int, int)", "int ask(int, int, int)", "int answer(int, int, boolean)",
        "int pass(int)", "int message(int)", "int acknowledge(int)", "double balance(int)",
        "double paid(int, int)", "int domain(int, int)", "int thing(int, int)", "int zone(int)",
        "int count(int)",
    };
    private static final String[] CONSTANTS = {
        "ACTIVE = 0", "REDEMPTION = 1", "LEAVING = 2", "ASKED = 1", "DONE = 2", "ENDED = 3",
        "GONE = 4",
    };

    private static int wrong = 0;

    private FaceTest() {
    }

    public static void main(String[] args) throws IllegalAccessException {
        int modifiers = RegistryDesk.class.getModifiers();
        due("public final", Modifier.isPublic(modifiers) && Modifier.isFinal(modifiers), true);
        due("methods", visibleMethods(), setOf(METHODS));
        due("constants", visibleFields(), setOf(CONSTANTS));
        due("constructors", visibleConstructors(), setOf("()"));
        due("state outside objects", changeableStatics(), setOf());
        due("private methods with a public one's name", namesUsedTwice(), setOf());
        due("classes inside that are seen", visibleClasses(), setOf());
        System.out.println(wrong == 0 ? "the face is the document's" : wrong + " faults");
        if (wrong != 0) {
            System.exit(1);
        }
    }

    private static void due(String what, Object got, Object want) {
        if (!got.equals(want)) {
            wrong++;
            System.out.println(what + ": " + got + ", due is " + want);
        }
    }

    private static Set<String> setOf(String... texts) {
        return new TreeSet<>(Arrays.asList(texts));
    }

    private static String inBrackets(Class<?>[] types) {
        StringBuilder text = new StringBuilder();
        for (Class<?> type : types) {
            text.append(text.length() == 0 ? "" : ", ").append(type.getSimpleName());
        }
        return "(" + text + ")";
    }

    private static Set<String> visibleMethods() {
        Set<String> found = new TreeSet<>();
        for (Method method : RegistryDesk.class.getDeclaredMethods()) {
            if (!Modifier.isPrivate(method.getModifiers())) {
                due(method + " is public", Modifier.isPublic(method.getModifiers()), true);
                dueThrows(method);
                found.add(method.getReturnType().getSimpleName() + " " + method.getName()
                        + inBrackets(method.getParameterTypes()));
            }
        }
        return found;
    }

    /** Each method but count declares the four exceptions, in the document's order. */
    private static void dueThrows(Method method) {
        due("what " + method.getName() + " throws", inBrackets(method.getExceptionTypes()),
            method.getName().equals("count") ? "()" : "(IllegalArgumentException, "
            + "NoSuchElementException, UnsupportedOperationException, IllegalStateException)");
    }

    private static Set<String> namesUsedTwice() {
        Set<String> open = new TreeSet<>();
        Set<String> hidden = new TreeSet<>();
        for (Method method : RegistryDesk.class.getDeclaredMethods()) {
            (Modifier.isPrivate(method.getModifiers()) ? hidden : open).add(method.getName());
        }
        hidden.retainAll(open);
        return hidden;
    }

    private static Set<String> visibleClasses() {
        Set<String> found = new TreeSet<>();
        for (Class<?> inside : RegistryDesk.class.getDeclaredClasses()) {
            int modifiers = inside.getModifiers();
            if (!Modifier.isStatic(modifiers) || Modifier.isPublic(modifiers)
                    || Modifier.isProtected(modifiers)) {
                found.add(inside.getName());
            }
        }
        return found;
    }

    private static Set<String> visibleFields() throws IllegalAccessException {
        Set<String> found = new TreeSet<>();
        for (Field field : RegistryDesk.class.getDeclaredFields()) {
            if (!Modifier.isPrivate(field.getModifiers())) {
                found.add(field.getName() + " = " + field.get(null));
            }
        }
        return found;
    }

    private static Set<String> visibleConstructors() {
        Set<String> found = new TreeSet<>();
        for (Constructor<?> constructor : RegistryDesk.class.getDeclaredConstructors()) {
            found.add(inBrackets(constructor.getParameterTypes()));
        }
        return found;
    }

    private static Set<String> changeableStatics() {
        Set<String> found = new TreeSet<>();
        for (Field field : RegistryDesk.class.getDeclaredFields()) {
            int modifiers = field.getModifiers();
            if (Modifier.isStatic(modifiers) && !Modifier.isFinal(modifiers)) {
                found.add(field.getName());
            }
        }
        return found;
    }
}
