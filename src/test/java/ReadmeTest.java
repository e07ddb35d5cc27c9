import java.io.ByteArrayOutputStream;
import java.io.IOException;
import java.io.PrintStream;
import java.lang.reflect.Method;
import java.lang.reflect.Modifier;
import java.nio.charset.StandardCharsets;
import java.nio.file.Files;
import java.nio.file.Path;
import java.util.ArrayList;
import java.util.List;

/** README.md tells the class in the document's words, and its example has the answers that the class gives. */
public final class ReadmeTest {
    private static final String EXAMPLE = "src/test/java/Example.java";
    private static final String PRINTS = "System.out.println(";

    public static void main(String[] args) throws IOException {
        String readme = read("README.md");
        String document = read("../shared/DOC.md");
        exampleIsThatOfTheReadme(readme);
        exampleAnswersAsItSays();
        exampleHasEveryCall();
        rulesAreTheDocuments(readme, document);
        callsAreTheDocuments(readme, document);
        everyTestIsNamed(readme);
        Checks.end();
    }

    private static String read(String file) throws IOException {
        return Files.readString(Path.of(file));
    }

    private static void exampleIsThatOfTheReadme(String readme) throws IOException {
        int from = readme.indexOf("```java\n");
        int to = readme.indexOf("```\n", from + 1);
        Checks.due("README.md has an example", true, 0 <= from && from < to);
        if (0 <= from && from < to) {
            Checks.due("the example of README.md", read(EXAMPLE), readme.substring(from + 8, to));
        }
    }

    /** Behind each line that prints stands what it prints. */
    private static void exampleAnswersAsItSays() throws IOException {
        StringBuilder due = new StringBuilder();
        for (String line : read(EXAMPLE).split("\n")) {
            if (line.contains(PRINTS)) {
                due.append(line.substring(line.lastIndexOf("// ") + 3)).append('\n');
            }
        }
        PrintStream before = System.out;
        ByteArrayOutputStream printed = new ByteArrayOutputStream();
        System.setOut(new PrintStream(printed, true, StandardCharsets.UTF_8));
        try {
            Example.main(new String[0]);
        } finally {
            System.setOut(before);
        }
        String got = printed.toString(StandardCharsets.UTF_8).replace(System.lineSeparator(), "\n");
        Checks.due("the example", due.toString(), got);
    }

    private static void exampleHasEveryCall() throws IOException {
        String example = read(EXAMPLE);
        for (Method method : Satellitering.class.getDeclaredMethods()) {
            if (Modifier.isPublic(method.getModifiers())) {
                String call = "x." + method.getName() + "(";
                Checks.due("the example has " + call, true, example.contains(call));
            }
        }
    }

    private static void rulesAreTheDocuments(String readme, String document) {
        String said = oneLine(readme);
        for (String title : new String[] {"What it is", "Terms"}) {
            for (String paragraph : paragraphs(document, title)) {
                // which calls stand under which heading is told by the tables
                if (!paragraph.startsWith("Ahead of the calls ")) {
                    String rule = oneLine(paragraph.replace("The constants: ", ""));
                    Checks.due("README.md says: " + rule, true, said.contains(rule));
                }
            }
        }
    }

    private static void callsAreTheDocuments(String readme, String document) {
        int promises = 0;
        for (String section : document.split("(?m)^## ")) {
            if (section.startsWith("Promise ")) {
                promises++;
                promise(readme, paragraphs(section));
            }
        }
        Checks.due("promises in the document", 25, promises);
    }

    /** The first paragraph is the call and what it does, then come parameters, answers and exceptions. */
    private static void promise(String readme, List<String> paragraphs) {
        String first = paragraphs.get(0);
        int end = first.indexOf("`", 1);
        String call = first.substring(1, end).replaceAll(" throws .*", "");
        String row = row(readme, call);
        int at = next(row, call, first.substring(end + 3), 0);
        int refusals = 0;
        for (String paragraph : paragraphs.subList(1, paragraphs.size())) {
            for (String line : paragraph.split("\n")) {
                refusals += line.startsWith("Throws ") ? 1 : 0;
                at = next(row, call, asInTheTable(line), at);
            }
        }
        Checks.due("refusals in the row of " + call, refusals, row.split("Exception`", -1).length - 1);
        Checks.due("the row of " + call + " says that it refuses nothing", refusals == 0, row.endsWith(" nothing |"));
    }

    /** The document sets a name with dots in two parts. */
    private static String asInTheTable(String line) {
        return line.replaceFirst("^(- |Throws )", "")
                .replace("`java` .util.NoSuchElementException", "`java.util.NoSuchElementException`");
    }

    private static String row(String readme, String call) {
        for (String line : readme.split("\n")) {
            if (line.startsWith("| `" + call + "` |")) {
                return line;
            }
        }
        Checks.fail("README.md has no row of " + call);
        return "";
    }

    /** Where the words end in the row, if they stand there behind the place; else the place. */
    private static int next(String row, String call, String words, int behind) {
        int at = row.indexOf(words, behind);
        Checks.due("the row of " + call + " says next: " + words, true, at >= 0);
        return at < 0 ? behind : at + words.length();
    }

    private static void everyTestIsNamed(String readme) throws IOException {
        try (var files = Files.list(Path.of("src/test/java"))) {
            for (Path file : (Iterable<Path>) files::iterator) {
                String name = file.getFileName().toString().replace(".java", "");
                Checks.due("README.md names " + name, true, readme.contains("`" + name + "`"));
            }
        }
    }

    private static List<String> paragraphs(String document, String title) {
        for (String section : document.split("(?m)^## ")) {
            if (section.startsWith(title + "\n")) {
                return paragraphs(section);
            }
        }
        Checks.fail("the document has no section " + title);
        return List.of();
    }

    /** Those of a section behind its title. */
    private static List<String> paragraphs(String section) {
        List<String> found = new ArrayList<>();
        String[] parts = section.strip().split("\n\n+");
        for (int i = 1; i < parts.length; i++) {
            found.add(parts[i]);
        }
        return found;
    }

    private static String oneLine(String text) {
        return text.replaceAll("\\s+", " ").strip();
    }
}
