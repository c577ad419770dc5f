import java.lang.reflect.InvocationTargetException;
import java.lang.reflect.Method;
import java.util.Arrays;
import java.util.Comparator;
import java.util.Set;
import java.util.TreeSet;

/** Runs the cases of the document's edges; a case is a method named by its place in the document: pNN_, w_, t1_, t2_. */
public final class EdgesTest {
    private static final int PROMISES = 25;

    public static void main(String[] args) {
        Checks checks = new Checks("EdgesTest");
        Set<String> places = new TreeSet<>();
        Bench[] all = {new EdgesOfTerms(checks), new EdgesOfWho(checks), new EdgesOfPlans(checks), new EdgesOfYears(checks)};
        int cases = 0;
        for (Bench bench : all) {
            for (Method method : casesOf(bench)) {
                places.add(method.getName().substring(0, method.getName().indexOf('_')));
                run(checks, bench, method);
                cases++;
            }
        }
        for (int promise = 1; promise <= PROMISES; promise++) {
            checks.same("promise " + promise + " has a case", places.contains(String.format("p%02d", promise)), true);
        }
        checks.same("'What it is' and both 'Terms' have a case", places.size(), PROMISES + 3);
        System.out.println("EdgesTest: " + cases + " cases");
        checks.end();
    }

    private static Method[] casesOf(Bench bench) {
        return Arrays.stream(bench.getClass().getDeclaredMethods())
            .filter(method -> method.getName().matches("(p\\d\\d|w|t1|t2)_.*"))
            .sorted(Comparator.comparing(Method::getName))
            .toArray(Method[]::new);
    }

    /** Whatever the class throws unasked fails the case and leaves the others to run. */
    private static void run(Checks checks, Bench bench, Method method) {
        bench.now = method.getName() + ": ";
        try {
            method.invoke(bench);
        } catch (InvocationTargetException e) {
            System.out.println(method.getName() + " was ended by " + e.getCause());
            checks.same(method.getName() + " comes to its end", false, true);
        } catch (IllegalAccessException e) {
            checks.same(method.getName() + " can be called", false, true);
        }
    }
}
