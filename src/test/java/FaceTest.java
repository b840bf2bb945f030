import java.lang.reflect.Constructor;
import java.lang.reflect.Field;
import java.lang.reflect.Method;
import java.lang.reflect.Modifier;
import java.util.Set;
import java.util.TreeSet;

/** The public face, to the letter. */
public final class FaceTest {
    private static final Check CHECK = new Check("the face");
    private static final String INDEX = " IndexOutOfBoundsException";
    private static final String STATE = " IllegalStateException";
    private static final String ARGUMENT = " IllegalArgumentException";

    public static void main(String[] args) throws IllegalAccessException {
        CHECK.due("modifiers", Modifier.toString(TrialDesk.class.getModifiers()), "public final");
        constants();
        constructors();
        methods();
        classesInside();
        CHECK.end();
    }

    private static void constants() throws IllegalAccessException {
        Set<String> got = new TreeSet<>();
        for (Field field : TrialDesk.class.getDeclaredFields()) {
            if (!Modifier.isPrivate(field.getModifiers())) {
                got.add(Modifier.toString(field.getModifiers()) + " " + field.getName() + " " + field.getInt(null));
            }
        }
        Set<String> want = new TreeSet<>();
        String[] names = {"NONE", "DOWN", "OPENED", "CLOSED", "KNOWN", "NO_KIT", "NO_BLOCK", "HELD"};
        for (int i = 0; i < names.length; i++) {
            want.add("public static final " + names[i] + " " + (-1 - i));
        }
        CHECK.due("constants", got, want);
    }

    private static void constructors() {
        Constructor<?>[] all = TrialDesk.class.getDeclaredConstructors();
        CHECK.due("constructors", all.length, 1);
        CHECK.due("constructor", all[0].toString(), "public TrialDesk()");
    }

    private static void methods() {
        Set<String> open = new TreeSet<>();
        Set<String> names = new TreeSet<>();
        Set<String> hidden = new TreeSet<>();
        for (Method method : TrialDesk.class.getDeclaredMethods()) {
            if (Modifier.isPrivate(method.getModifiers())) {
                hidden.add(method.getName());
            } else {
                names.add(method.getName());
                open.add(signature(method));
            }
        }
        CHECK.due("methods", open, new TreeSet<>(Set.of(
                "void arms int int int int int long" + ARGUMENT + STATE,
                "int site int" + INDEX + ARGUMENT,
                "int kits int int int int" + INDEX + STATE + ARGUMENT,
                "int allot int int int" + INDEX + STATE,
                "int reserve int int" + INDEX + STATE,
                "int offline int int int" + INDEX + STATE,
                "int report int" + INDEX,
                "int close int" + INDEX,
                "int key int int int" + INDEX,
                "int arm int int" + INDEX,
                "int open int int" + INDEX,
                "int count int int" + INDEX + STATE,
                "int spread int" + INDEX + STATE,
                "int entry int int" + INDEX,
                "int blocks int" + INDEX,
                "int stock int int" + INDEX + ARGUMENT,
                "int used int" + INDEX,
                "void tear",
                "int mount" + STATE)));
        hidden.retainAll(names);
        CHECK.due("hidden methods with a public one's name", hidden, "[]");
    }

    /** A constructor hands out nothing of the object that it makes: classes inside are made from numbers alone. */
    private static void classesInside() {
        for (Class<?> inside : TrialDesk.class.getDeclaredClasses()) {
            CHECK.due(inside.getName(), Modifier.toString(inside.getModifiers()), "private static final");
            for (Constructor<?> constructor : inside.getDeclaredConstructors()) {
                for (Class<?> type : constructor.getParameterTypes()) {
                    CHECK.due(constructor + " takes a number", type.isPrimitive(), true);
                }
            }
        }
    }

    private static String signature(Method method) {
        CHECK.due(method.getName(), Modifier.toString(method.getModifiers()), "public");
        StringBuilder text = new StringBuilder(method.getReturnType() + " " + method.getName());
        for (Class<?> type : method.getParameterTypes()) {
            text.append(' ').append(type);
        }
        for (Class<?> type : method.getExceptionTypes()) {
            text.append(' ').append(type.getSimpleName());
        }
        return text.toString();
    }
}
