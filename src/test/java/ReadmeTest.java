import java.io.IOException;
import java.lang.reflect.Method;
import java.lang.reflect.Modifier;
import java.net.URLClassLoader;
import java.nio.file.FileVisitOption;
import java.nio.file.Files;
import java.nio.file.Path;
import java.util.ArrayList;
import java.util.Comparator;
import java.util.List;
import java.util.NoSuchElementException;
import java.util.function.Supplier;
import java.util.regex.Matcher;
import java.util.regex.Pattern;
import java.util.stream.Stream;
import javax.tools.ToolProvider;

/** That what README.md shows as the use of the class compiles and answers as it says, and that its commands work. */
public final class ReadmeTest {
    private static final Path PAGE = Path.of("README.md");
    private static final Path DOCUMENT = Path.of("../shared/DOC.md");
    private static final Pattern CALL =
        Pattern.compile("(?:(int|boolean) (\\w+) = )?(x\\.\\w+\\(.*); +// (-?\\w+)(?:[:;].*)?");
    private static final Pattern PROMISE = Pattern.compile("`((?:int |boolean |)\\w+\\(.*)`: (.*)");
    private static final String NEW_OBJECT = "WishSharer x = new WishSharer();";
    /** These two are running when this test runs from .ci/run, or run this test. */
    private static final List<String> UNDER_WAY = List.of(".ci/run", "java -cp build/tests ReadmeTest");

    private static final Checks CHECKS = new Checks("ReadmeTest");
    private static final List<String> PROGRAM = new ArrayList<>();

    public static void main(String[] args) throws Exception {
        List<String> page = Files.readAllLines(PAGE);
        PROGRAM.addAll(blocksOf(page, "java"));
        Path folder = Files.createTempDirectory("readme");
        try {
            compilesAsShown(folder);
            answersAsShown(folder);
            everyCallIsShown();
            everyPromiseIsTold(page);
            everyTermIsTold(page);
            everyTestIsTold(page);
            commandsWork(folder, blocksOf(page, "sh"));
        } finally {
            delete(folder);
        }
        CHECKS.end();
    }

    private static List<String> blocksOf(List<String> page, String language) {
        List<String> lines = new ArrayList<>();
        boolean inside = false;
        for (String line : page) {
            if (line.startsWith("```")) {
                inside = line.equals("```" + language);
            } else if (inside && !line.isBlank()) {
                lines.add(line.strip());
            }
        }
        CHECKS.same("lines of " + language, lines.isEmpty(), false);
        return lines;
    }

    // ---- the program

    private static void compilesAsShown(Path folder) throws IOException {
        CHECKS.same("the program compiles as shown", compiles(folder, "Shown", PROGRAM), true);
    }

    private static boolean compiles(Path folder, String name, List<String> lines) throws IOException {
        StringBuilder source = new StringBuilder("public class " + name + " { public static void main(String[] args) {\n");
        for (String line : lines) {
            source.append(line).append('\n');
        }
        Path file = Files.writeString(folder.resolve(name + ".java"), source.append("} }\n"));
        String classes = System.getProperty("java.class.path");
        return ToolProvider.getSystemJavaCompiler()
            .run(null, null, null, "-cp", classes, "-d", folder.toString(), file.toString()) == 0;
    }

    private static void answersAsShown(Path folder) throws Exception {
        List<String> lines = new ArrayList<>();
        for (int i = 0; i < PROGRAM.size(); i++) {
            String line = PROGRAM.get(i);
            Matcher call = CALL.matcher(line);
            boolean known = call.matches();
            CHECKS.same("'" + line + "' makes the object or is a call with its answer", known || line.equals(NEW_OBJECT), true);
            if (!known) {
                lines.add(line);
                continue;
            }
            if (call.group(2) != null) {
                lines.add(call.group(1) + " " + call.group(2) + " = " + call.group(3) + ";");
            }
            String asked = call.group(2) != null ? call.group(2) : call.group(3);
            lines.add("ReadmeTest.answered(" + i + ", \"" + call.group(4) + "\", () -> " + asked + ");");
        }
        CHECKS.same("the object is made once", PROGRAM.stream().filter(NEW_OBJECT::equals).count(), 1);
        boolean compiled = compiles(folder, "Answering", lines);
        CHECKS.same("the program compiles with its answers", compiled, true);
        if (compiled) {
            run(folder);
        }
    }

    private static void run(Path folder) throws Exception {
        try (URLClassLoader loader = new URLClassLoader(new java.net.URL[] {folder.toUri().toURL()})) {
            Object none = new String[0];
            loader.loadClass("Answering").getMethod("main", String[].class).invoke(null, none);
        }
    }

    /** Called by the program, a line at a time. */
    public static void answered(int line, String due, Supplier<Object> call) {
        String got;
        try {
            got = String.valueOf(call.get());
        } catch (NoSuchElementException e) {
            got = "NoSuchElementException";
        }
        CHECKS.same("'" + PROGRAM.get(line) + "' (" + got + ")", got.equals(due), true);
    }

    // ---- what stands in it

    private static void everyCallIsShown() {
        String program = String.join("\n", PROGRAM);
        for (Method method : WishSharer.class.getDeclaredMethods()) {
            if (Modifier.isPublic(method.getModifiers())) {
                CHECKS.same(method.getName() + " is shown", program.contains("x." + method.getName() + "("), true);
            }
        }
        CHECKS.same("NONE is shown", program.contains("WishSharer.NONE"), true);
    }

    private static void everyPromiseIsTold(List<String> page) throws IOException {
        int promises = 0;
        for (String line : Files.readAllLines(DOCUMENT)) {
            Matcher promise = PROMISE.matcher(line);
            if (promise.matches()) {
                promises++;
                String row = "| `" + promise.group(1) + "` | " + promise.group(2) + " |";
                boolean told = page.contains(row) || page.contains(line);
                CHECKS.same(promise.group(1) + " is told in the document's words", told, true);
            }
        }
        CHECKS.same("promises", promises, 25);
    }

    private static void everyTermIsTold(List<String> page) throws IOException {
        boolean terms = false;
        for (String line : Files.readAllLines(DOCUMENT)) {
            if (line.startsWith("## ")) {
                terms = line.equals("## Terms");
            }
            if (terms && !line.startsWith("## ") && !line.startsWith("Ahead of the calls")) {
                CHECKS.same("'" + line + "' is told in the document's words", page.contains(line), true);
            }
        }
    }

    private static void everyTestIsTold(List<String> page) throws IOException {
        List<String> commands = blocksOf(page, "sh");
        try (Stream<Path> files = Files.list(Path.of("src/test/java"))) {
            for (Path file : files.sorted().toList()) {
                String name = file.getFileName().toString().replace(".java", "");
                boolean told = commands.stream().anyMatch(line -> line.matches(".* " + name + "( .*)?"));
                CHECKS.same(name + " has a command", told, name.endsWith("Test"));
            }
        }
    }

    // ---- the commands

    /** Runs them in a copy of the project's root, so that none can lean on what stands in this one. */
    private static void commandsWork(Path folder, List<String> commands) throws IOException, InterruptedException {
        Path root = folder.resolve("root");
        copy(Path.of("src"), root.resolve("src"));
        copy(Path.of("README.md"), root.resolve("README.md"));
        copy(Path.of("../shared"), folder.resolve("shared"));
        for (String command : UNDER_WAY) {
            CHECKS.same("'" + command + "' is told", commands.contains(command), true);
        }
        for (String command : commands) {
            if (!UNDER_WAY.contains(command)) {
                CHECKS.same("'" + command + "' ends with", exitCode(root, command), 0);
            }
        }
    }

    private static int exitCode(Path root, String command) throws IOException, InterruptedException {
        Path told = Files.createTempFile("command", ".txt");
        int code = new ProcessBuilder("bash", "-c", command).directory(root.toFile()).redirectErrorStream(true)
            .redirectOutput(told.toFile()).start().waitFor();
        if (code != 0) {
            System.out.println(Files.readString(told));
        }
        Files.delete(told);
        return code;
    }

    private static void copy(Path from, Path to) throws IOException {
        try (Stream<Path> all = Files.walk(from, FileVisitOption.FOLLOW_LINKS)) {
            for (Path path : all.toList()) {
                Path target = to.resolve(from.relativize(path).toString());
                if (Files.isDirectory(path)) {
                    Files.createDirectories(target);
                } else {
                    Files.copy(path, target);
                }
            }
        }
    }

    private static void delete(Path folder) throws IOException {
        try (Stream<Path> all = Files.walk(folder)) {
            for (Path path : all.sorted(Comparator.reverseOrder()).toList()) {
                Files.delete(path);
            }
        }
    }
}
