import java.io.IOException;
import java.lang.reflect.Method;
import java.nio.file.Files;
import java.nio.file.Path;
import java.util.ArrayList;
import java.util.List;
import java.util.Set;
import java.util.TreeSet;

/** Holds src/test/SENTENCES.md against the document (each sentence stands in it) and against the cases (each is there). */
public final class SentencesTest {
    private static final Path PAGE = Path.of("src/test/SENTENCES.md");
    private static final Path DOCUMENT = Path.of("../shared/DOC.md");
    private static final Class<?>[] BENCHES =
        {CasesOfFace.class, CasesOfTerms.class, CasesOfWho.class, CasesOfPlans.class, CasesOfYears.class};
    private static final String FREE = "free";
    private static final String LEFT_FREE = "Not promised";

    public static void main(String[] args) throws IOException {
        Checks checks = new Checks("SentencesTest");
        List<String> page = Files.readAllLines(PAGE);
        sameAsDocument(checks, wordsOf(quoted(page)), wordsOf(Files.readAllLines(DOCUMENT)));
        eachPieceHasACase(checks, page);
        eachCaseHasOnePlace(checks, page);
        checks.end();
    }

    /** The document as the page has it: headings, and what is quoted. */
    private static List<String> quoted(List<String> page) {
        List<String> lines = new ArrayList<>();
        for (String line : page) {
            if (line.startsWith("## ")) {
                lines.add(line);
            } else if (line.startsWith("> ")) {
                lines.add(line.substring(2));
            }
        }
        return lines;
    }

    /** All words from the first heading of the second order on, but for the marks of code blocks. */
    private static List<String> wordsOf(List<String> lines) {
        List<String> words = new ArrayList<>();
        boolean begun = false;
        for (String line : lines) {
            begun |= line.startsWith("## ");
            if (begun && !line.startsWith("```")) {
                for (String word : line.strip().split("\\s+")) {
                    if (!word.isEmpty()) {
                        words.add(word);
                    }
                }
            }
        }
        return words;
    }

    private static void sameAsDocument(Checks checks, List<String> page, List<String> document) {
        int common = 0;
        while (common < page.size() && common < document.size() && page.get(common).equals(document.get(common))) {
            common++;
        }
        if (common < document.size()) {
            System.out.println("the document goes on: " + near(document, common));
        }
        if (common < page.size()) {
            System.out.println("the page goes on: " + near(page, common));
        }
        checks.same("words that page and document have alike", common, document.size());
        checks.same("words of the page", page.size(), document.size());
    }

    private static String near(List<String> words, int place) {
        return String.join(" ", words.subList(Math.max(0, place - 5), Math.min(words.size(), place + 10)));
    }

    private static void eachPieceHasACase(Checks checks, List<String> page) {
        String section = "";
        for (int i = 0; i < page.size(); i++) {
            String line = page.get(i);
            if (line.startsWith("## ")) {
                section = line.substring(3);
            } else if (line.startsWith("> ")) {
                String next = i + 1 < page.size() ? page.get(i + 1) : "";
                boolean free = section.equals(LEFT_FREE);
                boolean has = next.startsWith("- ") && next.equals("- " + FREE) == free;
                checks.same("'" + line.substring(2) + "' has a case of its own", has, true);
            }
        }
    }

    private static void eachCaseHasOnePlace(Checks checks, List<String> page) {
        Set<String> cases = allCases(checks);
        Set<String> named = new TreeSet<>();
        for (String line : page) {
            if (line.startsWith("- ") && !line.equals("- " + FREE)) {
                String name = line.substring(2);
                checks.same(name + " is a case", cases.contains(name), true);
                checks.same(name + " is named once", named.add(name), true);
            }
        }
        for (String name : cases) {
            checks.same(name + " is on the page", named.contains(name), true);
        }
    }

    private static Set<String> allCases(Checks checks) {
        Set<String> cases = new TreeSet<>();
        for (Class<?> bench : BENCHES) {
            for (Method method : bench.getDeclaredMethods()) {
                if (CasesTest.isCase(method)) {
                    checks.same(method.getName() + " is the name of one case", cases.add(method.getName()), true);
                }
            }
        }
        return cases;
    }
}
