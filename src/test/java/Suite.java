import java.lang.reflect.InvocationTargetException;
import java.lang.reflect.Method;
import java.util.ArrayList;
import java.util.Arrays;
import java.util.Comparator;
import java.util.List;

/** The tests of a class: its static methods that name a promise. */
final class Suite {
    private Suite() {
    }

    static List<Method> testsOf(Class<?> tests) {
        List<Method> found = new ArrayList<>();
        for (Method m : tests.getDeclaredMethods()) {
            if (m.isAnnotationPresent(Promise.class)) {
                found.add(m);
            }
        }
        found.sort(Comparator.comparing((Method m) -> m.getAnnotation(Promise.class).value()[0])
                .thenComparing(Method::getName));
        return found;
    }

    /** Runs them all; one that asks nothing, or throws, has failed. */
    static void run(Class<?> tests, Due due) {
        for (Method m : testsOf(tests)) {
            due.about("promise " + Arrays.toString(m.getAnnotation(Promise.class).value()) + ", " + m.getName());
            int asked = due.asked();
            try {
                m.setAccessible(true);
                m.invoke(null);
                due.holds("the test asks something", due.asked() > asked);
            } catch (InvocationTargetException e) {
                due.holds("threw " + e.getCause(), false);
            } catch (IllegalAccessException e) {
                due.holds("can't be run: " + e, false);
            }
        }
        due.about("");
        due.end();
    }
}
