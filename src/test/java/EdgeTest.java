import java.lang.reflect.InvocationTargetException;
import java.lang.reflect.Method;
import java.util.Arrays;
import java.util.Comparator;

/**
 * The boundary cases that the document names, each a test of its own: a method pNN_name, NN the number of its promise.
 * Every promise has one at least.
 */
public final class EdgeTest {
    private static final int PROMISES = 35;
    private static final Class<?>[] EDGES = {BookEdges.class, ReadEdges.class, CastingEdges.class, RehearsalEdges.class,
        IllEdges.class, OtherEdges.class};

    private EdgeTest() {
    }

    private static int promiseOf(Method test) {
        return test.getName().matches("p\\d\\d_\\w+") ? Integer.parseInt(test.getName().substring(1, 3)) : 0;
    }

    private static Method[] testsOf(Class<?> edges) {
        return Arrays.stream(edges.getDeclaredMethods()).filter(m -> promiseOf(m) > 0)
                .sorted(Comparator.comparing(Method::getName)).toArray(Method[]::new);
    }

    private static void run(Method test, Due due) throws IllegalAccessException {
        try {
            test.invoke(null, new Edge(due, test.getName()));
        } catch (InvocationTargetException thrown) {
            due.holds(test.getName() + " threw " + thrown.getCause(), false);
        }
    }

    public static void main(String[] args) throws IllegalAccessException {
        Due due = new Due();
        int[] tests = new int[PROMISES + 1];
        int all = 0;
        for (Class<?> edges : EDGES) {
            for (Method test : testsOf(edges)) {
                run(test, due);
                tests[promiseOf(test)]++;
                all++;
            }
        }
        for (int promise = 1; promise <= PROMISES; promise++) {
            due.holds("promise " + promise + " has a test of its boundaries", tests[promise] > 0);
        }
        System.out.println(all + " boundary cases");
        due.end();
    }
}
