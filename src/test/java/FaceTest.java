import java.lang.reflect.Field;
import java.lang.reflect.Method;
import java.lang.reflect.Modifier;
import java.util.Arrays;
import java.util.TreeSet;

/** The public face: its members, their types and what they throw, and nothing beside them. */
public final class FaceTest {
    private static final String[] METHODS = {
        "int amount(int,int,int) IndexOutOfBoundsException IllegalArgumentException",
        "int account(int) IndexOutOfBoundsException IllegalStateException",
        "int number(int) IllegalArgumentException IllegalStateException",
        "int term(int) IndexOutOfBoundsException IllegalStateException",
        "int join(int) IllegalArgumentException IllegalStateException",
        "int share(int) IllegalArgumentException IllegalStateException",
        "int year() IllegalStateException",
        "int clear()",
        "int define() IllegalStateException",
        "int amend(int,int) IndexOutOfBoundsException IllegalStateException",
        "int terms()",
        "int level(int) IndexOutOfBoundsException",
        "long value(int,int) IndexOutOfBoundsException",
        "int textLength(int,int) IndexOutOfBoundsException",
        "char textChar(int,int,int) IndexOutOfBoundsException",
        "int test(int,int) IndexOutOfBoundsException IllegalStateException",
        "int limit(int,int,int) IndexOutOfBoundsException IllegalArgumentException",
        "int wake(int,int,int) IndexOutOfBoundsException IllegalArgumentException",
        "int cure(int,int,int) IndexOutOfBoundsException IllegalArgumentException IllegalStateException",
        "boolean waive(int,int) IndexOutOfBoundsException",
        "int state(int,int) IndexOutOfBoundsException",
        "long room(int,int) IndexOutOfBoundsException IllegalStateException",
        "int broken()",
        "int basket(int,int,int) IllegalArgumentException IndexOutOfBoundsException IllegalStateException",
        "long size(int,int) IndexOutOfBoundsException",
        "long use(int,int,int) IndexOutOfBoundsException IllegalArgumentException IllegalStateException",
        "long refill(int,int) IndexOutOfBoundsException IllegalArgumentException IllegalStateException"
    };
    private static final String[] CONSTANTS = {
        "NONE=-1", "SUM=0", "LESS=1", "LESSER=2", "GREATER=3",
        "ASLEEP=0", "KEPT=1", "CURED=2", "WAIVED=3", "BROKEN=4"
    };

    public static void main(String[] args) throws IllegalAccessException {
        Checks checks = new Checks("FaceTest");
        checks.due("public final", Modifier.toString(Covenanter.class.getModifiers()));
        checks.due(1, () -> Covenanter.class.getDeclaredConstructors().length);
        checks.due(1, () -> Covenanter.class.getConstructors().length);
        checks.due(sorted(METHODS).toString(), methods().toString());
        checks.due(sorted(CONSTANTS).toString(), constants().toString());
        for (Class<?> inner : Covenanter.class.getDeclaredClasses()) {
            checks.about(inner.getSimpleName());
            checks.due("private static final", Modifier.toString(inner.getModifiers()));
        }
        checks.end();
    }

    private static TreeSet<String> sorted(String[] texts) {
        return new TreeSet<>(Arrays.asList(texts));
    }

    private static TreeSet<String> methods() {
        TreeSet<String> told = new TreeSet<>();
        TreeSet<String> names = new TreeSet<>();
        for (Method method : Covenanter.class.getMethods()) {
            names.add(method.getName());
        }
        for (Method method : Covenanter.class.getDeclaredMethods()) {
            boolean isPrivate = Modifier.isPrivate(method.getModifiers());
            if (!isPrivate) {
                told.add(toText(method));
            } else if (names.contains(method.getName())) {
                told.add("private " + toText(method));
            }
        }
        return told;
    }

    private static String toText(Method method) {
        StringBuilder text = new StringBuilder();
        text.append(method.getReturnType()).append(' ').append(method.getName()).append('(');
        for (int place = 0; place < method.getParameterCount(); place++) {
            text.append(place == 0 ? "" : ",").append(method.getParameterTypes()[place]);
        }
        text.append(')');
        for (Class<?> thrown : method.getExceptionTypes()) {
            text.append(' ').append(thrown.getSimpleName());
        }
        return text.toString();
    }

    private static TreeSet<String> constants() throws IllegalAccessException {
        TreeSet<String> told = new TreeSet<>();
        for (Field field : Covenanter.class.getDeclaredFields()) {
            if (!Modifier.isPrivate(field.getModifiers())) {
                boolean isConstant = Modifier.toString(field.getModifiers()).equals("public static final");
                told.add(field.getName() + "=" + (isConstant ? field.get(null) : "no constant"));
            }
        }
        return told;
    }
}
