import java.lang.reflect.InvocationTargetException;
import java.lang.reflect.Method;
import java.lang.reflect.Modifier;
import java.util.Arrays;
import java.util.Comparator;

/** Compares answers with those that are due, runs the tests of a class one by one, and ends them. */
final class Due {
    static final int LOW = -1000000000;
    static final int BEYOND = LOW - 1;
    static final int NONE = LOW - 2;
    static final int STATE = LOW - 3;
    static final int FULL = LOW - 4;
    static final int KIND = LOW - 5;

    private static int asked = 0;
    private static int wrong = 0;
    private static String test = "";

    private Due() {
    }

    static void due(String call, long got, long want) {
        asked++;
        if (got != want) {
            wrong++;
            System.out.println(test + call + " answered " + got + ", due is " + want);
        }
    }

    static void due(String what, boolean holds) {
        due(what, holds ? 1 : 0, 1);
    }

    /** Bytes come to THE TAPE in words of eight: an object is used for 512 calls alone. */
    static void feed(NineLedges x, String bytes) {
        for (int i = 0; i < bytes.length(); i += 8) {
            int n = Math.min(8, bytes.length() - i);
            long word = 0;
            for (int k = n - 1; k >= 0; k--) {
                word = word << 8 | bytes.charAt(i + k);
            }
            x.feed(word, n);
        }
    }

    static int text(NineLedges x, int use, String bytes) {
        feed(x, bytes);
        return x.text(use);
    }

    static int errors(NineLedges x) {
        int n = 0;
        for (int k = 1; k <= 5; k++) {
            n += x.told(k);
        }
        return n;
    }

    /** Each static method of a class that takes and answers nothing is a test; one that asks nothing fails. */
    static void each(Class<?> tests) throws ReflectiveOperationException {
        Method[] methods = tests.getDeclaredMethods();
        Arrays.sort(methods, Comparator.comparing(Method::getName));
        int run = 0;
        for (Method m : methods) {
            if (Modifier.isStatic(m.getModifiers()) && !m.isSynthetic() && m.getParameterCount() == 0
                    && m.getReturnType() == void.class) {
                int before = asked;
                test = tests.getSimpleName() + "." + m.getName() + ": ";
                one(m);
                due("asked something", asked > before);
                run++;
            }
        }
        test = "";
        System.out.println(run + " tests by name");
        end(tests.getSimpleName());
    }

    private static void one(Method m) throws ReflectiveOperationException {
        m.setAccessible(true);
        try {
            m.invoke(null);
        } catch (InvocationTargetException e) {
            throw new AssertionError(test + "threw", e.getCause());
        }
    }

    static void end(String name) {
        System.out.println(name + ": " + asked + " answers, " + wrong + " wrong");
        if (wrong != 0 || asked == 0) {
            System.exit(1);
        }
    }
}
