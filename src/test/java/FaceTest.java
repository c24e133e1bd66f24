import java.lang.reflect.Constructor;
import java.lang.reflect.Field;
import java.lang.reflect.Method;
import java.lang.reflect.Modifier;
import java.util.Arrays;
import java.util.TreeSet;

/** The public face: just the document's constant, constructor and methods, with the exceptions that they declare. */
public final class FaceTest {
    private static final String CELL = "IndexOutOfBoundsException";
    private static final String RANGE = "IllegalArgumentException";
    private static final String STATE = "IllegalStateException";

    public static void main(String[] args) {
        Check check = new Check("Face");
        check.same("the methods", methods(), String.join("\n", new TreeSet<>(Arrays.asList(
            "int land(int, int) " + CELL + " " + RANGE + " " + STATE,
            "int sea(int) " + RANGE,
            "void climate(int, int, int) " + RANGE,
            "int ice(int, int) " + CELL + " " + RANGE + " " + STATE,
            "boolean ash()",
            "int pass(int) " + RANGE + " " + STATE,
            "int cellIs(int, int) " + CELL + " " + RANGE,
            "int layer(int, int) " + CELL + " " + RANGE,
            "int yearAt(int, int) " + CELL + " " + RANGE,
            "int common(int, int) " + CELL,
            "int floods()",
            "int flood(int, int) " + CELL + " " + RANGE,
            "int front(int) " + RANGE,
            "int total(int) " + RANGE,
            "int iceAnew()",
            "int would(int, int, int) " + CELL + " " + RANGE + " " + STATE,
            "int forecast(int) " + RANGE + " " + STATE,
            "int miss(int) " + CELL))));
        check.same("the class", Modifier.toString(IceLand.class.getModifiers()), "public final");
        for (Constructor<?> made : IceLand.class.getDeclaredConstructors()) {
            check.same("a constructor", made.toString(), "public IceLand()");
        }
        for (Field field : IceLand.class.getDeclaredFields()) {
            String due = field.getName().equals("NONE") ? "public static final" : "private";
            check.same("field " + field.getName(), Modifier.toString(field.getModifiers()).startsWith(due), true);
        }
        for (Class<?> inner : IceLand.class.getDeclaredClasses()) {
            int marks = inner.getModifiers();
            check.same("class " + inner.getName(),
                Modifier.isStatic(marks) && !Modifier.isPublic(marks) && !Modifier.isProtected(marks), true);
        }
        privateNamesDiffer(check);
        check.end();
    }

    private static String methods() {
        TreeSet<String> lines = new TreeSet<>();
        for (Method method : IceLand.class.getDeclaredMethods()) {
            if (Modifier.isPrivate(method.getModifiers())) {
                continue;
            }
            StringBuilder line = new StringBuilder();
            line.append(method.getReturnType()).append(' ').append(method.getName());
            line.append(Arrays.toString(method.getParameterTypes()).replace('[', '(').replace(']', ')'));
            for (Class<?> thrown : method.getExceptionTypes()) {
                line.append(' ').append(thrown.getSimpleName());
            }
            String marks = Modifier.toString(method.getModifiers());
            lines.add(marks.equals("public") ? line.toString() : marks + " " + line);
        }
        return String.join("\n", lines);
    }

    private static void privateNamesDiffer(Check check) {
        TreeSet<String> open = new TreeSet<>();
        for (Method method : IceLand.class.getDeclaredMethods()) {
            if (Modifier.isPublic(method.getModifiers())) {
                open.add(method.getName());
            }
        }
        privateNamesDiffer(check, IceLand.class, open);
        for (Class<?> inner : IceLand.class.getDeclaredClasses()) {
            privateNamesDiffer(check, inner, open);
        }
    }

    private static void privateNamesDiffer(Check check, Class<?> of, TreeSet<String> open) {
        for (Method method : of.getDeclaredMethods()) {
            boolean hidden = Modifier.isPrivate(method.getModifiers()) || of != IceLand.class;
            check.same("the name " + method.getName() + " of " + of.getName() + " is its own",
                hidden && open.contains(method.getName()), false);
        }
    }
}
