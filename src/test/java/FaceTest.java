import java.lang.reflect.Constructor;
import java.lang.reflect.Field;
import java.lang.reflect.Member;
import java.lang.reflect.Method;
import java.lang.reflect.Modifier;
import java.util.ArrayList;
import java.util.Arrays;
import java.util.List;
import java.util.Map;
import java.util.Set;
import java.util.TreeMap;
import java.util.TreeSet;

/** The face is that of the document, no more and no less, with the exceptions that it names (rule 1 of LANGUAGE.md). */
public final class FaceTest {
    private static final Checks checks = new Checks();
    private static final String ARGUMENT = " IllegalArgumentException";
    private static final String STATE = " IllegalStateException";
    private static final String INDEX = " IndexOutOfBoundsException";

    public static void main(String[] args) {
        Class<?> face = VisitorLoom.class;
        checks.yes("public and final", Modifier.isPublic(face.getModifiers()) && Modifier.isFinal(face.getModifiers()));
        methodsAreTheDocuments(face);
        constructorIsTheDocuments(face);
        fieldsAreTheDocuments(face);
        insidersAreHiddenAndStatic(face);
        classesAreSmall(face);
        checks.end();
    }

    private static Map<String, String> dueMethods() {
        Map<String, String> due = new TreeMap<>();
        due.put("event", "boolean(int, int, int, int, int, int)" + ARGUMENT + STATE);
        due.put("skew", "int(int, int)" + ARGUMENT);
        due.put("share", "boolean(int, boolean)" + ARGUMENT);
        due.put("link", "boolean(int, int, boolean)" + ARGUMENT);
        due.put("consent", "int(int, int, int, boolean)" + ARGUMENT + STATE);
        due.put("group", "int(int, int, int, int)" + ARGUMENT + STATE);
        due.put("forget", "int(int)" + ARGUMENT);
        due.put("pass", "int(int)" + ARGUMENT + STATE);
        due.put("profile", "int(int)" + ARGUMENT);
        due.put("profileAnew", "int(int)" + ARGUMENT);
        due.put("events", "int(int, int)" + ARGUMENT);
        due.put("eventAt", "int(int, int)" + INDEX + ARGUMENT);
        due.put("time", "int(int)");
        due.put("sessions", "int(int)" + ARGUMENT);
        due.put("session", "int(int, int, int)" + INDEX + ARGUMENT);
        due.put("counted", "int(int, int, int, int, int)" + ARGUMENT);
        due.put("groups", "int(int)" + ARGUMENT);
        due.put("tell", "int()");
        due.put("told", "int(int)" + INDEX);
        due.put("toldInAll", "int()");
        return due;
    }

    private static String shape(Method method) {
        StringBuilder shape = new StringBuilder(method.getReturnType().getSimpleName());
        String types = Arrays.toString(Arrays.stream(method.getParameterTypes()).map(Class::getSimpleName).toArray());
        shape.append('(').append(types, 1, types.length() - 1).append(')');
        for (Class<?> thrown : method.getExceptionTypes()) {
            shape.append(' ').append(thrown.getSimpleName());
        }
        return shape.toString();
    }

    private static void methodsAreTheDocuments(Class<?> face) {
        Map<String, String> due = dueMethods();
        Map<String, String> got = new TreeMap<>();
        for (Method method : face.getDeclaredMethods()) {
            if (!isHidden(method)) {
                checks.yes(method.getName() + " is public, of objects", Modifier.isPublic(method.getModifiers())
                        && !Modifier.isStatic(method.getModifiers()));
                checks.yes(method.getName() + " is there once", got.put(method.getName(), shape(method)) == null);
            } else {
                checks.yes(method.getName() + " bears no public name", !due.containsKey(method.getName()));
            }
        }
        checks.due("the methods", due.toString(), got.toString());
    }

    private static void constructorIsTheDocuments(Class<?> face) {
        Constructor<?>[] all = face.getDeclaredConstructors();
        checks.yes("one public constructor without parameters and exceptions", all.length == 1
                && Modifier.isPublic(all[0].getModifiers()) && all[0].getParameterCount() == 0
                && all[0].getExceptionTypes().length == 0);
    }

    private static void fieldsAreTheDocuments(Class<?> face) {
        Set<String> open = new TreeSet<>();
        for (Field field : face.getDeclaredFields()) {
            if (!isHidden(field)) {
                open.add(Modifier.toString(field.getModifiers()) + " " + field.getType() + " " + field.getName());
            }
            if (Modifier.isStatic(field.getModifiers())) {
                checks.yes(field.getName() + " is final", Modifier.isFinal(field.getModifiers()));
            }
        }
        checks.due("the fields", "[public static final int NONE]", open.toString());
    }

    private static void insidersAreHiddenAndStatic(Class<?> face) {
        for (Class<?> inside : face.getDeclaredClasses()) {
            int modifiers = inside.getModifiers();
            checks.yes(inside.getSimpleName(), Modifier.isStatic(modifiers) && !Modifier.isPublic(modifiers)
                    && !Modifier.isProtected(modifiers));
        }
    }

    /** The numbers of rule 11, and the names and statics of rules 1 and 5 for the classes inside too. */
    private static void classesAreSmall(Class<?> face) {
        Set<String> open = dueMethods().keySet();
        List<Class<?>> all = new ArrayList<>(List.of(face.getDeclaredClasses()));
        all.add(face);
        for (Class<?> each : all) {
            long fields = Arrays.stream(each.getDeclaredFields()).filter(f -> !isConstant(f)).count();
            checks.yes(each.getSimpleName() + " has " + fields + " fields", fields <= 20);
            for (Field field : each.getDeclaredFields()) {
                checks.yes(field + " is final, if static", isConstant(field) || !Modifier.isStatic(field.getModifiers()));
            }
            for (Constructor<?> constructor : each.getDeclaredConstructors()) {
                checks.yes(constructor + " has few parameters", constructor.getParameterCount() <= 7);
            }
            for (Method method : each.getDeclaredMethods()) {
                checks.yes(method + " has few parameters", method.getParameterCount() <= 7);
                checks.yes(method + " bears a name of its own", each == face || !open.contains(method.getName()));
            }
        }
    }

    private static boolean isConstant(Field field) {
        return Modifier.isStatic(field.getModifiers()) && Modifier.isFinal(field.getModifiers());
    }

    private static boolean isHidden(Member member) {
        return Modifier.isPrivate(member.getModifiers()) || member.isSynthetic();
    }
}
