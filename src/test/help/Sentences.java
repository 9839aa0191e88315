import java.lang.reflect.InvocationTargetException;
import java.lang.reflect.Method;
import java.lang.reflect.Modifier;
import java.util.Arrays;
import java.util.Comparator;

/** Runs the tests of a class, each by itself, and names the words of the document that do not hold. */
final class Sentences {
    private Sentences() {
    }

    static Method[] testsOf(Class<?> tests) {
        Method[] all = Arrays.stream(tests.getDeclaredMethods()).filter(m -> m.isAnnotationPresent(Says.class)).toArray(Method[]::new);
        Arrays.sort(all, Comparator.comparing(Method::getName));
        return all;
    }

    static String where(Says says) {
        return says.promise() == Says.TERMS ? "Terms" : "Promise " + says.promise();
    }

    /** Ends the program with 1 if a test fails or there is none. */
    static void run(Class<?> tests) throws IllegalAccessException {
        int passed = 0;
        int failed = 0;
        for (Method test : testsOf(tests)) {
            if (holds(test)) {
                passed++;
            } else {
                failed++;
            }
        }
        System.out.println(passed + " passed, " + failed + " failed");
        if (failed != 0 || passed == 0) {
            System.exit(1);
        }
    }

    private static boolean holds(Method test) throws IllegalAccessException {
        if (!Modifier.isStatic(test.getModifiers()) || test.getParameterCount() != 0) {
            System.out.println(test.getName() + " can't be run");
            return false;
        }
        try {
            test.invoke(null);
            return true;
        } catch (InvocationTargetException e) {
            Says says = test.getAnnotation(Says.class);
            System.out.println(where(says) + ", \"" + says.words() + "\": " + test.getName());
            System.out.println("  " + e.getCause());
            return false;
        }
    }
}
