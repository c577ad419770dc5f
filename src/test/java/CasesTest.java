import java.io.IOException;
import java.lang.reflect.InvocationTargetException;
import java.lang.reflect.Method;
import java.util.Arrays;
import java.util.Comparator;
import java.util.Set;
import java.util.TreeSet;

/** Runs the cases of the document's sentences; a case is a method named by its place: pNN_, w_, f_, t1_, t2_. */
public final class CasesTest {
    private static final int PROMISES = 25;

    public static void main(String[] args) throws IOException {
        Checks checks = new Checks("CasesTest");
        Set<String> places = new TreeSet<>();
        Bench[] all = {new CasesOfFace(checks), new CasesOfTerms(checks), new CasesOfWho(checks), new CasesOfPlans(checks),
            new CasesOfYears(checks)};
        int cases = 0;
        for (Bench bench : all) {
            for (Method method : casesOf(bench)) {
                places.add(method.getName().substring(0, method.getName().indexOf('_')));
                run(checks, bench, method);
                cases++;
            }
        }
        for (int promise = 1; promise <= PROMISES; promise++) {
            checks.same("promise " + promise + " has a case", places.contains(String.format("p%02d", promise)), true);
        }
        checks.same("'What it is', the face and both 'Terms' have a case", places.size(), PROMISES + 4);
        System.out.println("CasesTest: " + cases + " cases");
        checks.end();
    }

    static boolean isCase(Method method) {
        return method.getName().matches("(p\\d\\d|w|f|t1|t2)_.*");
    }

    private static Method[] casesOf(Bench bench) {
        return Arrays.stream(bench.getClass().getDeclaredMethods())
            .filter(CasesTest::isCase)
            .sorted(Comparator.comparing(Method::getName))
            .toArray(Method[]::new);
    }

    /** Whatever the class throws unasked fails the case and leaves the others to run. */
    private static void run(Checks checks, Bench bench, Method method) {
        bench.now = method.getName() + ": ";
        try {
            method.invoke(bench);
        } catch (InvocationTargetException e) {
            System.out.println(method.getName() + " was ended by " + e.getCause());
            checks.same(method.getName() + " comes to its end", false, true);
        } catch (IllegalAccessException e) {
            checks.same(method.getName() + " can be called", false, true);
        }
    }
}
