import java.io.IOException;
import java.nio.file.Files;
import java.nio.file.Path;
import java.util.ArrayList;
import java.util.LinkedHashMap;
import java.util.List;
import java.util.Map;
import java.util.stream.Collectors;
import java.util.stream.Stream;

/**
 * Each boundary case that a sentence of the document names, in a test of its own: the lines of
 * the files under src/test/edges. Each stands below the words of the document that it tests, and
 * all words of the terms and the promises have to stand there, so that none is passed over.
 */
public final class EdgeTest {
    private static final Checks CHECKS = new Checks("EdgeTest");

    /** The lines of each section of the document, by its heading. */
    private final Map<String, List<String>> sections = new LinkedHashMap<>();
    private final Map<String, List<String>> quotes = new LinkedHashMap<>();
    private String heading = "";
    private String quote = "";
    private int testsOfQuote = 1;

    private EdgeTest() {
    }

    /** The argument: the folder in which the document stands. */
    public static void main(String[] args) throws IOException, ReflectiveOperationException {
        EdgeTest test = new EdgeTest();
        test.takeDocument(Files.readAllLines(Path.of(args[0], "DOC.md")));
        try (Stream<Path> files = Files.list(Path.of("src/test/edges"))) {
            for (Path file : files.sorted().collect(Collectors.toList())) {
                test.runFile(file);
            }
        }
        test.allIsQuoted();
        CHECKS.end();
    }

    private void takeDocument(List<String> lines) {
        String section = "";
        for (String line : lines) {
            String text = line.trim();
            if (isHeading(text)) {
                section = text;
            }
            sections.computeIfAbsent(section, k -> new ArrayList<>()).add(text);
        }
    }

    private static boolean isHeading(String line) {
        return line.startsWith("## ") || line.startsWith("== ");
    }

    private void runFile(Path file) throws IOException, ReflectiveOperationException {
        for (String line : Files.readAllLines(file)) {
            if (isHeading(line)) {
                heading = line;
                quote = "";
                CHECKS.same("the document has " + line, sections.containsKey(line), true);
            } else if (line.startsWith("> ")) {
                takeQuote(line.substring(2));
            } else if (!line.isBlank()) {
                runLine(line);
            }
        }
        CHECKS.same(quote + " is tested", testsOfQuote > 0, true);
    }

    private void takeQuote(String words) {
        CHECKS.same(quote + " is tested", testsOfQuote > 0, true);
        boolean isThere = false;
        for (String line : sections.getOrDefault(heading, List.of())) {
            isThere |= line.contains(words);
        }
        CHECKS.same(heading + " says: " + words, isThere, true);
        quote = words;
        testsOfQuote = 0;
        quotes.computeIfAbsent(heading, k -> new ArrayList<>()).add(words);
    }

    /** A line: what is tested, and the run that tests it. */
    private void runLine(String line) throws ReflectiveOperationException {
        int colon = line.indexOf(": ");
        CHECKS.same("\"" + line + "\" is a test", colon > 0 && !quote.isEmpty(), true);
        for (String run : EdgeRun.runsOf(line.substring(colon + 2))) {
            String name = heading + " > " + quote + " > " + line.substring(0, colon);
            CHECKS.same(name + ": " + run, new EdgeRun(run).fault(), "");
            testsOfQuote++;
        }
    }

    private void allIsQuoted() {
        for (Map.Entry<String, List<String>> section : sections.entrySet()) {
            String name = section.getKey();
            if (name.equals("## Terms") || name.startsWith("== ")
                    || name.startsWith("## Promise ")) {
                for (String line : section.getValue()) {
                    CHECKS.same(name + " is not tested in", notQuoted(name, line), "");
                }
            }
        }
    }

    /** What of a line stands above no test. */
    private String notQuoted(String section, String line) {
        // The face is tested by FaceTest; of the arguments those with a word on their bounds count.
        String left = line.replaceFirst("^`[^`]*`: ?", "").replaceFirst("^`[^`]*\\)`: ", "");
        boolean isPlainArgument = left.startsWith("- ") && !left.matches(".*[(,0-9].*");
        if (isHeading(line) || line.startsWith("```") || line.startsWith("Ahead of the calls")
                || isPlainArgument) {
            return "";
        }
        for (String words : quotes.getOrDefault(section, List.of())) {
            left = left.replace(words, "");
        }
        return left.matches(".*[a-zA-Z0-9].*") ? left : "";
    }
}
