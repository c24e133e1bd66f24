import java.lang.reflect.InvocationTargetException;
import java.lang.reflect.Method;
import java.util.Arrays;
import java.util.Comparator;

/** Runs the tests of a class, and counts and prints the answers that are not the ones that are due. */
final class Check {
    /** A call on a land. */
    interface Call {
        void on(IceLand x);
    }

    private String name;
    private int wrong;

    Check(String name) {
        this.name = name;
    }

    /** Runs each method of a class that is marked as Said, and ends the machine if an answer was wrong. */
    static void run(Class<?> tests) {
        Check check = new Check(tests.getSimpleName());
        Method[] methods = tests.getDeclaredMethods();
        Arrays.sort(methods, Comparator.comparing(Method::getName));
        boolean any = false;
        for (Method method : methods) {
            if (method.isAnnotationPresent(Said.class)) {
                any = true;
                check.name = tests.getSimpleName() + "." + method.getName();
                check.runOne(method);
            }
        }
        if (!any) {
            check.wrong("there is no test");
        }
        check.end();
    }

    private void runOne(Method method) {
        try {
            method.invoke(null, this);
        } catch (InvocationTargetException e) {
            wrong("threw " + e.getCause());
        } catch (IllegalAccessException e) {
            wrong("can't be run: " + e);
        }
    }

    void same(String call, long got, long due) {
        if (got != due) {
            wrong(call + " answered " + got + ", due is " + due);
        }
    }

    void same(String call, boolean got, boolean due) {
        same(call, got ? 1 : 0, due ? 1 : 0);
    }

    void same(String call, String got, String due) {
        if (!got.equals(due)) {
            wrong(call + "\n  answered " + got + "\n  due is   " + due);
        }
    }

    /** What cellIs(cell, what) answers of as many cells, from the first one on. */
    void cells(String when, IceLand x, int what, int first, int... due) {
        for (int i = 0; i < due.length; i++) {
            same(when + ": cellIs(" + (first + i) + ", " + what + ")", x.cellIs(first + i, what), due[i]);
        }
    }

    /** There is no such cell, flood or forecast, in no scene: the call throws just that, and changes nothing. */
    void noSuch(String call, Call made) {
        for (Scene scene : Scene.values()) {
            noSuch(scene, call, made);
        }
    }

    void noSuch(Scene scene, String call, Call made) {
        refused(scene, call, IndexOutOfBoundsException.class, made);
    }

    /** An argument is out of range, in each scene. */
    void outOfRange(String call, Call made) {
        for (Scene scene : Scene.values()) {
            outOfRange(scene, call, made);
        }
    }

    void outOfRange(Scene scene, String call, Call made) {
        refused(scene, call, IllegalArgumentException.class, made);
    }

    void notNow(Scene scene, String call, Call made) {
        refused(scene, call, IllegalStateException.class, made);
    }

    /** Not now, on a land that is asked further by the test itself. */
    void notNow(IceLand x, String call, Call made) {
        due(call, thrownBy(made, x), IllegalStateException.class);
    }

    private boolean due(String call, Class<?> got, Class<?> due) {
        if (got != due) {
            wrong(call + " threw " + (got == null ? "nothing" : got.getName()) + ", due is " + due.getName());
        }
        return got == due;
    }

    private void refused(Scene scene, String call, Class<?> due, Call made) {
        for (Question question : Question.values()) {
            IceLand x = scene.make();
            if (!due(scene + ": " + call, thrownBy(made, x), due)) {
                return;
            }
            same(scene + ": of " + question + " the refused " + call + " changes nothing", question.askedOf(x),
                question.askedAtFirst(scene));
        }
    }

    private static Class<?> thrownBy(Call made, IceLand x) {
        try {
            made.on(x);
            return null;
        } catch (RuntimeException e) {
            return e.getClass();
        }
    }

    void wrong(String text) {
        wrong++;
        System.out.println(name + ": " + text);
    }

    void end() {
        if (wrong != 0) {
            System.out.println(wrong + " wrong");
            System.exit(1);
        }
    }
}
