import java.io.IOException;
import java.lang.reflect.Constructor;
import java.lang.reflect.Field;
import java.lang.reflect.Method;
import java.lang.reflect.Modifier;
import java.nio.file.Files;
import java.nio.file.Path;
import java.util.ArrayList;
import java.util.Arrays;
import java.util.List;
import java.util.Set;
import java.util.TreeSet;

/** Those rules of ../shared/LANGUAGE.md that a look at the class and its source can tell. */
public final class SourceRulesTest {
    private static final Path SOURCE = Path.of("src/main/java/WishSharer.java");
    private static final String[] FACE = {
        "apart(int,int,boolean):boolean", "best():int", "book():int", "change():int", "count(int):int",
        "friends(int,int,boolean):boolean", "here(int,boolean):boolean", "lie(int):int", "lots(int):boolean",
        "of(int,int):int", "offered(int,boolean):boolean", "plans(int):int", "project(int,int,int,int,int):int",
        "pupil(int):int", "put(int,int):boolean", "rank(int,int):int", "row(int):int", "swap():int", "undo():int",
        "wish(int,int):int", "wishes(int,int,int,int,int):int", "worth(int):int", "wrong():int", "year(int,int):int"};
    private static final String[] BARRED = {"->", "::", "catch", " try {", "finally", "synchronized", "assert", "Exact(",
        "System.out", "System.nano", "System.current", "Thread", "Random", "java.io", "java.nio", "Math.", "Object",
        "HashMap", "@", "\"", "var ", "hashCode", "toString", "equals"};

    public static void main(String[] args) throws IOException {
        Checks checks = new Checks("SourceRulesTest");
        face(checks);
        for (Class<?> c : allClasses()) {
            members(checks, c);
        }
        checks.same("classes, some twelve", allClasses().size() <= 12, true);
        text(checks, Files.readString(SOURCE));
        lengths(checks, Files.readAllLines(SOURCE));
        checks.end();
    }

    private static List<Class<?>> allClasses() {
        List<Class<?>> all = new ArrayList<>();
        all.add(WishSharer.class);
        all.addAll(Arrays.asList(WishSharer.class.getDeclaredClasses()));
        return all;
    }

    private static void face(Checks checks) {
        Set<String> open = new TreeSet<>();
        for (Method m : WishSharer.class.getDeclaredMethods()) {
            if (!Modifier.isPrivate(m.getModifiers())) {
                String types = Arrays.toString(Arrays.stream(m.getParameterTypes()).map(Class::getName).toArray());
                String inside = types.substring(1, types.length() - 1).replace(" ", "");
                open.add(m.getName() + "(" + inside + "):" + m.getReturnType());
                checks.same(m.getName() + " is public alone", m.getModifiers(), Modifier.PUBLIC);
            }
        }
        checks.same("the face is the document's: " + open, open.equals(new TreeSet<>(Arrays.asList(FACE))), true);
        checks.same("public and final", WishSharer.class.getModifiers(), Modifier.PUBLIC | Modifier.FINAL);
        for (Field f : WishSharer.class.getDeclaredFields()) {
            boolean shown = !Modifier.isPrivate(f.getModifiers());
            checks.same(f.getName() + " is shown", shown, f.getName().equals("NONE"));
        }
        Constructor<?>[] made = WishSharer.class.getDeclaredConstructors();
        checks.same("one constructor", made.length, 1);
        checks.same("without parameters, public", made[0].getParameterCount() == 0 && made[0].getModifiers() == 1, true);
    }

    private static void members(Checks checks, Class<?> c) {
        int fields = 0;
        for (Field f : c.getDeclaredFields()) {
            boolean isStatic = Modifier.isStatic(f.getModifiers());
            fields += isStatic ? 0 : 1;
            checks.same(c + " " + f.getName() + " static, not final", isStatic && !Modifier.isFinal(f.getModifiers()), false);
        }
        checks.same(c + " fields, some twenty", fields <= 20, true);
        for (Method m : c.getDeclaredMethods()) {
            checks.same(m + " parameters, at most seven", m.getParameterCount() <= 7, true);
            boolean named = Arrays.stream(FACE).anyMatch(f -> f.startsWith(m.getName() + "("));
            boolean shown = c == WishSharer.class && Modifier.isPublic(m.getModifiers());
            checks.same(m + " bears a public one's name", named && !shown, false);
            checks.same(m + " is made by the compiler", m.isSynthetic(), false);
        }
        if (c != WishSharer.class) {
            checks.same(c + " is static", Modifier.isStatic(c.getModifiers()), true);
            checks.same(c + " is shown", (c.getModifiers() & (Modifier.PUBLIC | Modifier.PROTECTED)) != 0, false);
        }
    }

    private static void text(Checks checks, String source) {
        String code = source.replaceAll("(?s)/\\*.*?\\*/", "").replaceAll("//[^\n]*", "");
        for (String barred : BARRED) {
            checks.same("'" + barred + "' stands in it", code.contains(barred), false);
        }
        checks.same("imports", code.split("\nimport |^import ", -1).length - 1, 1);
        checks.same("the one import", code.contains("import java.util.NoSuchElementException;"), true);
        checks.same("throws stand in of and row alone", code.split("throw new", -1).length - 1, 3);
        checks.same("signs are 1 to 127", source.chars().allMatch(sign -> sign > 0 && sign < 128), true);
    }

    /** A method opens with a bracket behind its parameters, and ends with one as far in as its first line. */
    private static void lengths(Checks checks, List<String> lines) {
        for (int start = 0; start < lines.size(); start++) {
            String line = lines.get(start);
            String indent = line.substring(0, line.length() - line.stripLeading().length());
            if (line.endsWith("{") && line.contains("(") && (indent.length() == 4 || indent.length() == 8)) {
                int end = start;
                while (end < lines.size() && !lines.get(end).equals(indent + "}") && end - start < 100) {
                    end++;
                }
                checks.same("line " + (start + 1) + ": a method of some sixty lines", end - start <= 60, true);
            }
        }
    }
}
