import java.lang.reflect.InvocationTargetException;
import java.lang.reflect.Method;
import java.util.Arrays;
import java.util.Comparator;
import java.util.Set;
import java.util.TreeSet;

/** Each sentence of the document that names a boundary case: all functions of the groups that bear a promise's number, or terms. */
public final class BoundariesTest {
    private static final Class<?>[] GROUPS = {RowBounds.class, TextBounds.class, HouseBounds.class, DeedBounds.class,
        CountBounds.class, SackBounds.class, TaxBounds.class, LeadBounds.class, ToldBounds.class};
    private static final int PROMISES = 51;

    public static void main(String[] args) throws IllegalAccessException, InvocationTargetException {
        Set<Integer> promises = new TreeSet<>();
        int tests = 0;
        for (Class<?> group : GROUPS) {
            Method[] all = group.getDeclaredMethods();
            Arrays.sort(all, Comparator.comparing(Method::getName));
            for (Method test : all) {
                boolean isOfPromise = test.getName().startsWith("promise");
                if (isOfPromise) {
                    promises.add(Integer.parseInt(test.getName().substring(7, 9)));
                }
                if (isOfPromise || test.getName().startsWith("terms")) {
                    Boundary.begin(test.getName());
                    test.invoke(null);
                    tests++;
                }
            }
        }
        Boundary.begin("all tests");
        Boundary.due("promises that have tests", promises.size(), PROMISES);
        System.out.println(tests + " tests of boundaries, " + Boundary.checksMade() + " checks, "
            + Boundary.checksWrong() + " wrong");
        if (Boundary.checksWrong() != 0) {
            System.exit(1);
        }
    }
}
