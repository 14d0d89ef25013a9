import java.io.IOException;
import java.lang.reflect.Method;
import java.lang.reflect.Modifier;
import java.nio.file.DirectoryStream;
import java.nio.file.Files;
import java.nio.file.Path;
import java.util.ArrayList;
import java.util.List;
import java.util.Map;
import java.util.Set;
import java.util.TreeMap;
import java.util.TreeSet;
import java.util.regex.Matcher;
import java.util.regex.Pattern;

/** README.md: its examples answer what they say, and it tells of every call and every test. */
public final class ReadmeTest {
    private static final Path README = Path.of("README.md");
    private static final Path TESTS = Path.of("src/test/java");
    private static final Pattern ANSWER = Pattern.compile("(?:int|boolean) (\\w+) = .*// ([-\\w]+): .*");

    public static void main(String[] args) throws IOException {
        List<String> readme = Files.readAllLines(README);
        examplesAreThoseRunHere(readme);
        Check.same("the answers of the examples", answersTold(readme).toString(), answersOfTheExamples().toString());
        writtenTextsOfTheExamples();
        everyCallIsTold(readme);
        everyTestIsTold(readme);
        Check.finish();
    }

    private static Map<String, String> answersOfTheExamples() {
        // README begins
        NameRules book = new NameRules();
        for (char c : "http/".toCharArray()) book.type(c);
        int space = book.name();                        // 0: the number of the name "http/"
        book.type('h');
        int form = book.name();                         // 1: "h"
        boolean isShort = book.prefix(space, form);     // true: "h" is a short of "http/" now
        for (char c : "h:page".toCharArray()) book.type(c);
        int page = book.expand();                       // 2: "http/page"
        int length = book.print(page);                  // 6: letter(0) to letter(5) are "h:page"
        int free = book.propose(page);                  // 1: "p" is no short yet; letter(0) is 'p'
        int row = book.row(page, space, form);          // 0: the number of the row
        int again = book.row(page, page, page);         // -1: no row more, the term has row 0 (-1 less 0)
        int kind = book.clash(0);                       // 2: the kind of this clash
        for (char c : "h:pgae".toCharArray()) book.type(c);
        int wrong = book.expand();                      // 3: "http/pgae"
        int uses = book.use(wrong);                     // 1: used once
        int unknown = book.unknown(0);                  // 3: the first unknown name
        int nearest = book.near(unknown, 0);            // 0: the row whose term is the nearest
        int steps = book.apart(unknown, page);          // 2: two characters are to be changed
        boolean stands = book.alias(form, page);        // true: "h" stands for "http/page"
        int meaning = book.meaning(form);               // 2: "http/page"
        int joined = book.join(page, form, 0);          // 4: "http/h"
        int places = book.rename(page, joined);         // 2: the term of row 0, and what "h" stands for
        int term = book.told(row, 0);                   // 4: "http/h"
        int now = book.now(page);                       // 4: what "http/page" has become
        int was = book.was(joined);                     // 2: what "http/h" was
        // README ends
        Object[] answers = {"space", space, "form", form, "isShort", isShort, "page", page, "length", length,
            "free", free, "row", row, "again", again, "kind", kind, "wrong", wrong, "uses", uses,
            "unknown", unknown, "nearest", nearest, "steps", steps, "stands", stands, "meaning", meaning,
            "joined", joined, "places", places, "term", term, "now", now, "was", was};
        Map<String, String> byVariable = new TreeMap<>();
        for (int i = 0; i < answers.length; i += 2) {
            byVariable.put(answers[i].toString(), answers[i + 1].toString());
        }
        return byVariable;
    }

    /** The examples tell the names' characters and what is written, too. */
    private static void writtenTextsOfTheExamples() {
        NameRules book = Check.bookOf("http/", "h", "http/page", "http/pgae", "http/h");
        book.prefix(0, 1);
        Check.printedDue(book, "h:page", "print", 2);
        Check.printedDue(book, "p", "propose", 2);
        Check.write(book, "h:page");
        Check.due(book, 2, "expand");
        Check.write(book, "h:pgae");
        Check.due(book, 3, "expand");
        Check.due(book, 4, "join", 2, 1, 0);
    }

    private static void examplesAreThoseRunHere(List<String> readme) throws IOException {
        List<String> here = Files.readAllLines(TESTS.resolve("ReadmeTest.java"));
        Check.same("the examples", String.join("\n", linesBetween(readme, "```java", "```")),
                String.join("\n", linesBetween(here, "// README begins", "// README ends")));
    }

    private static List<String> linesBetween(List<String> lines, String begin, String end) {
        List<String> found = new ArrayList<>();
        boolean inside = false;
        for (String line : lines) {
            String text = line.trim();
            if (text.equals(inside ? end : begin)) {
                inside = !inside;
            } else if (inside) {
                found.add(text);
            }
        }
        return found;
    }

    private static Map<String, String> answersTold(List<String> readme) {
        Map<String, String> told = new TreeMap<>();
        for (String line : linesBetween(readme, "```java", "```")) {
            Matcher answer = ANSWER.matcher(line);
            if (answer.matches()) {
                told.put(answer.group(1), answer.group(2));
            }
        }
        return told;
    }

    private static void everyCallIsTold(List<String> readme) {
        Set<String> face = new TreeSet<>();
        for (Method method : NameRules.class.getDeclaredMethods()) {
            if (Modifier.isPublic(method.getModifiers())) {
                face.add(method.getName() + " of " + method.getParameterCount());
            }
        }
        Set<String> told = new TreeSet<>();
        Matcher call = Pattern.compile("`(\\w+)\\(([^)`]*)\\)`").matcher(firstCells(readme, "| call |"));
        while (call.find()) {
            int parameters = call.group(2).isEmpty() ? 0 : call.group(2).split(",").length;
            told.add(call.group(1) + " of " + parameters);
        }
        Check.same("the calls that are told", told.toString(), face.toString());
    }

    private static void everyTestIsTold(List<String> readme) throws IOException {
        Set<String> tests = new TreeSet<>();
        try (DirectoryStream<Path> files = Files.newDirectoryStream(TESTS, "*Test.java")) {
            for (Path file : files) {
                tests.add(file.getFileName().toString().replace(".java", ""));
            }
        }
        Set<String> told = new TreeSet<>();
        Matcher test = Pattern.compile("`(\\w+)`").matcher(firstCells(readme, "| test |"));
        while (test.find()) {
            told.add(test.group(1));
        }
        Check.same("the tests that are told", told.toString(), tests.toString());
    }

    /** The first cells of the table that begins so. */
    private static String firstCells(List<String> readme, String head) {
        StringBuilder cells = new StringBuilder();
        boolean inside = false;
        for (String line : readme) {
            inside = line.startsWith(head) || inside && line.startsWith("|");
            if (inside) {
                cells.append(line.split("\\|")[1]).append('\n');
            }
        }
        return cells.toString();
    }
}
