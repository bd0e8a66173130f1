import java.lang.reflect.Constructor;
import java.lang.reflect.Field;
import java.lang.reflect.Method;
import java.lang.reflect.Modifier;
import java.util.TreeSet;

/** The class shows the document's face, and nothing else. */
public final class FaceTest {
    private static final String I = "IndexOutOfBounds", A = "IllegalArgument", S = "IllegalState";

    public static void main(String[] args) {
        TreeSet<String> due = new TreeSet<>();
        due.add("public final HousePlans");
        due.add("HousePlans()");
        due.add("int NONE = -1");
        due.add("int OPEN = 0");
        due.add("int WALL = 1");
        due.add("int DOOR = 2");
        addMethods(due);
        TreeSet<String> shown = new TreeSet<>();
        shown.add(Modifier.toString(HousePlans.class.getModifiers()) + " HousePlans");
        for (Constructor<?> made : HousePlans.class.getDeclaredConstructors()) {
            shown.add("HousePlans(" + names(made.getParameterTypes()) + ")"
                    + thrown(made.getExceptionTypes()));
        }
        addShownFields(shown);
        for (Method method : HousePlans.class.getDeclaredMethods()) {
            if (!Modifier.isPrivate(method.getModifiers())) {
                shown.add(method.getReturnType() + " " + method.getName() + "("
                        + names(method.getParameterTypes()) + ")"
                        + thrown(method.getExceptionTypes()));
                Check.due("public", method.getName(),
                        () -> Modifier.toString(method.getModifiers()));
            }
        }
        Check.due(due, "the face", () -> shown);
        Check.end();
    }

    private static void addMethods(TreeSet<String> due) {
        due.add(method("int begin()", S));
        due.add(method("int tell(int, int, int, int)", I, A, S));
        due.add(method("boolean setExit(int, int, int, boolean)", I, A, S));
        due.add(method("boolean refer(int, int, int, boolean)", I, A, S));
        due.add(method("int drawings()"));
        due.add(method("int side(int, int)", I, A));
        due.add(method("boolean hasExit(int, int)", I, A));
        due.add(method("int rooms(int)", I));
        due.add(method("int room(int, int)", I, A));
        due.add(method("int size(int, int)", I, A));
        due.add(method("int doorsOut(int, int)", I, A));
        due.add(method("int doorThatHelps(int, int)", I, A));
        due.add(method("void lock(int, int)", I, A, S));
        due.add(method("void unlock(int, int)", I, A, S));
        due.add(method("int lend(int, int, int)", I, A, S));
        due.add(method("int canChange(int)", I));
        due.add(method("int grant(int)", I, S));
        due.add(method("boolean holds(int)", I));
        due.add(method("int print(int)", I, S));
        due.add(method("int permitOf(int)", I));
        due.add(method("boolean isGood(int)", I));
        due.add(method("int old()"));
    }

    private static void addShownFields(TreeSet<String> shown) {
        for (Field field : HousePlans.class.getDeclaredFields()) {
            if (!Modifier.isPrivate(field.getModifiers())) {
                Check.due("public static final", field.getName(),
                        () -> Modifier.toString(field.getModifiers()));
                shown.add(field.getType() + " " + field.getName() + " = " + value(field));
            }
        }
    }

    private static Object value(Field field) {
        try {
            return field.get(null);
        } catch (IllegalAccessException e) {
            return e;
        }
    }

    private static String method(String head, String... thrown) {
        StringBuilder text = new StringBuilder(head);
        for (String name : thrown) {
            text.append(" ").append(name).append("Exception");
        }
        return text.toString();
    }

    private static String names(Class<?>[] types) {
        StringBuilder text = new StringBuilder();
        for (Class<?> type : types) {
            text.append(text.length() == 0 ? "" : ", ").append(type.getSimpleName());
        }
        return text.toString();
    }

    private static String thrown(Class<?>[] types) {
        StringBuilder text = new StringBuilder();
        for (Class<?> type : types) {
            text.append(" ").append(type.getSimpleName());
        }
        return text.toString();
    }
}
