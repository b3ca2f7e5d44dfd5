import java.lang.reflect.InvocationTargetException;
import java.lang.reflect.Method;
import java.util.ArrayList;
import java.util.Comparator;
import java.util.List;

/** Finds the boundary tests of a class by their mark, so that none is forgotten, and runs each by itself. */
final class Edges {
    /** All classes that hold boundary tests. */
    static final List<Class<?>> OWNERS = List.of(EdgesOfTermsTest.class, EdgesOfTextTest.class, EdgesOfHouseTest.class,
        EdgesOfDeedsTest.class, EdgesOfTriedTest.class, EdgesOfSeenTest.class, EdgesOfDrawsTest.class);

    private Edges() {
    }

    static List<Method> testsOf(Class<?> owner) {
        List<Method> tests = new ArrayList<>();
        for (Method method : owner.getDeclaredMethods()) {
            if (method.isAnnotationPresent(Edge.class)) {
                tests.add(method);
            }
        }
        tests.sort(Comparator.comparingInt((Method m) -> m.getAnnotation(Edge.class).promise()).thenComparing(Method::getName));
        return tests;
    }

    static void run(Class<?> owner) {
        List<Method> tests = testsOf(owner);
        int failed = 0;
        for (Method test : tests) {
            failed += passes(test) ? 0 : 1;
        }
        System.out.println(owner.getName() + ": " + (tests.size() - failed) + " of " + tests.size() + " boundary tests hold");
        if (failed != 0 || tests.isEmpty()) {
            System.exit(1);
        }
    }

    private static boolean passes(Method test) {
        Edge edge = test.getAnnotation(Edge.class);
        Check check = new Check("promise " + edge.promise() + ", " + test.getName() + " (\"" + edge.says() + "\")");
        try {
            test.setAccessible(true);
            test.invoke(null, check);
        } catch (IllegalAccessException | InvocationTargetException thrown) {
            check.holds("no exception, but there was " + thrown.getCause(), false);
        }
        if (check.asked() == 0) {
            check.holds("something was asked", false);
        }
        return check.passed();
    }
}
