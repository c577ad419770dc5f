import java.io.IOException;
import java.lang.reflect.Constructor;
import java.lang.reflect.Field;
import java.lang.reflect.Member;
import java.lang.reflect.Method;
import java.lang.reflect.Modifier;
import java.nio.file.Files;
import java.nio.file.Path;
import java.util.ArrayList;
import java.util.Arrays;
import java.util.List;

/** Cases of 'The public face': a case a line of its code block, and one for each heading that stands ahead of calls. */
final class CasesOfFace extends Bench {
    private static final Path SOURCE = Path.of("src/main/java/WishSharer.java");
    private static final String CALL = "    public (int|boolean) (\\w+)\\(.*";
    private static final String HEADING = "    // ---- ";
    private final List<String> lines;

    CasesOfFace(Checks checks) throws IOException {
        super(checks);
        lines = Files.readAllLines(SOURCE);
    }

    private void stands(String line) {
        yes("'" + line + "' stands in the source", lines.contains(line));
    }

    /** That a call stands in the source and in the class as the document writes it. */
    private void call(String written) {
        stands("    " + written.substring(0, written.length() - 1) + " {");
        List<String> all = new ArrayList<>();
        for (Method method : WishSharer.class.getDeclaredMethods()) {
            all.add(method.toString());
        }
        String types = written.replaceAll("(int|boolean) \\w+(, |\\))", "$1$2").replace(", ", ",").replace(";", "");
        String shown = types.replaceFirst("(\\w+\\()", "WishSharer.$1").replace("throws ", "throws java.util.");
        yes("'" + shown + "' is in the class", all.contains(shown));
    }

    /** The calls that the source writes behind a heading, up to the next one. */
    private List<String> callsBehind(String heading) {
        List<String> calls = new ArrayList<>();
        boolean behind = false;
        for (String line : lines) {
            if (line.startsWith(HEADING)) {
                behind = line.equals(HEADING + heading);
            } else if (behind && line.matches(CALL)) {
                calls.add(line.replaceFirst(CALL, "$2"));
            }
        }
        return calls;
    }

    private void callsAre(String heading, String... calls) {
        stands(HEADING + heading);
        yes("behind '" + heading + "': " + callsBehind(heading), callsBehind(heading).equals(Arrays.asList(calls)));
    }

    void f_imported() {
        due("the first line", lines.indexOf("import java.util.NoSuchElementException;"), 0);
    }

    void f_class() {
        stands("public final class WishSharer {");
        due("public and final", WishSharer.class.getModifiers(), Modifier.PUBLIC | Modifier.FINAL);
        yes("without a package", WishSharer.class.getPackageName().isEmpty());
    }

    void f_none() throws NoSuchFieldException {
        stands("    public static final int NONE = -1;");
        due("NONE", WishSharer.NONE, -1);
        Field none = WishSharer.class.getDeclaredField("NONE");
        due("public, static and final", none.getModifiers(), Modifier.PUBLIC | Modifier.STATIC | Modifier.FINAL);
        yes("an int", none.getType() == int.class);
    }

    void f_constructor() {
        stands("    public WishSharer() {");
        Constructor<?>[] all = WishSharer.class.getDeclaredConstructors();
        due("how many", all.length, 1);
        due("public", all[0].getModifiers(), Modifier.PUBLIC);
        due("parameters", all[0].getParameterCount(), 0);
        due("exceptions", all[0].getExceptionTypes().length, 0);
    }

    void f_nothingElse() {
        due("calls", shownOf(WishSharer.class.getDeclaredMethods()), 24);
        due("constants", shownOf(WishSharer.class.getDeclaredFields()), 1);
        due("public classes inside", WishSharer.class.getClasses().length, 0);
    }

    private static int shownOf(Member[] members) {
        int shown = 0;
        for (Member member : members) {
            shown += Modifier.isPrivate(member.getModifiers()) ? 0 : 1;
        }
        return shown;
    }

    void f_pupil() {
        call("public int pupil(int skills);");
    }

    void f_project() {
        call("public int project(int kind, int least, int most, int skills, int leader);");
    }

    void f_wish() {
        call("public int wish(int pupil, int project);");
    }

    void f_wishes() {
        call("public int wishes(int pupil, int kind, int n, int f, int step);");
    }

    void f_friends() {
        call("public boolean friends(int a, int b, boolean are);");
    }

    void f_apart() {
        call("public boolean apart(int a, int b, boolean are);");
    }

    void f_here() {
        call("public boolean here(int pupil, boolean is);");
    }

    void f_offered() {
        call("public boolean offered(int project, boolean is);");
    }

    void f_lots() {
        call("public boolean lots(int seed);");
    }

    void f_count() {
        call("public int count(int what);");
    }

    void f_of() {
        call("public int of(int pupil, int what) throws NoSuchElementException;");
    }

    void f_rank() {
        call("public int rank(int pupil, int project);");
    }

    void f_put() {
        call("public boolean put(int pupil, int project);");
    }

    void f_wrong() {
        call("public int wrong();");
    }

    void f_best() {
        call("public int best();");
    }

    void f_plans() {
        call("public int plans(int what);");
    }

    void f_worth() {
        call("public int worth(int what);");
    }

    void f_swap() {
        call("public int swap();");
    }

    void f_change() {
        call("public int change();");
    }

    void f_lie() {
        call("public int lie(int pupil);");
    }

    void f_book() {
        call("public int book();");
    }

    void f_year() {
        call("public int year(int y, int pupil);");
    }

    void f_undo() {
        call("public int undo();");
    }

    void f_row() {
        call("public int row(int i) throws NoSuchElementException;");
    }

    void f_whoAndWhat() {
        callsAre("who and what", "pupil", "project", "wish", "wishes", "friends", "apart", "here", "offered", "lots",
            "count", "of", "rank");
    }

    void f_plans_heading() {
        callsAre("plans", "put", "wrong", "best", "plans", "worth", "swap", "change", "lie");
    }

    void f_years() {
        callsAre("years", "book", "year", "undo", "row");
    }
}
