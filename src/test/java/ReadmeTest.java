import java.io.IOException;
import java.lang.reflect.Method;
import java.nio.file.Files;
import java.nio.file.Path;
import java.util.ArrayList;
import java.util.HashSet;
import java.util.List;
import java.util.Set;
import java.util.regex.Matcher;
import java.util.regex.Pattern;

/**
 * What README.md shows of the class: each call in its blocks of Java answers as it says there,
 * each call of the face stands in one of them, and the tests run as it says.
 */
public final class ReadmeTest {
    private static final Checks CHECKS = new Checks("ReadmeTest");
    private static final String NEW_OBJECT = "Bestratios x = new Bestratios();";

    /** A call, its answer, and behind ": " a remark. A text or a bare word is an answer. */
    private static final Pattern CALL = Pattern.compile(
            "x\\.(\\w+)\\((.*?)\\); +// (\"[^\"]*\"|throws \\w+|-?\\w+)(: .+)?");

    private final Set<String> shown = new HashSet<>();

    private ReadmeTest() {
    }

    public static void main(String[] args) throws IOException, ReflectiveOperationException {
        List<String> readme = Files.readAllLines(Path.of("README.md"));
        ReadmeTest test = new ReadmeTest();
        List<List<String>> blocks = blocksOf(readme, "```java");
        CHECKS.same("README.md shows calls", blocks.isEmpty(), false);
        for (List<String> block : blocks) {
            test.runBlock(block);
        }
        test.allIsShown();
        commandsAreThere(blocksOf(readme, "```sh"));
        testsAreTold(String.join("\n", readme));
        CHECKS.end();
    }

    /** The lines of each block that starts so. */
    private static List<List<String>> blocksOf(List<String> lines, String start) {
        List<List<String>> blocks = new ArrayList<>();
        boolean isInside = false;
        for (String line : lines) {
            if (line.equals(start)) {
                blocks.add(new ArrayList<>());
                isInside = true;
            } else if (line.startsWith("```")) {
                isInside = false;
            } else if (isInside) {
                blocks.get(blocks.size() - 1).add(line);
            }
        }
        return blocks;
    }

    /** A block is one run: its first line makes the object, each other one is a call. */
    private void runBlock(List<String> block) throws ReflectiveOperationException {
        CHECKS.same("a block starts", block.isEmpty() ? "" : block.get(0), NEW_OBJECT);
        StringBuilder run = new StringBuilder();
        for (int k = 1; k < block.size(); k++) {
            Matcher call = CALL.matcher(block.get(k));
            boolean isCall = call.matches();
            CHECKS.same("\"" + block.get(k) + "\" tells a call and its answer", isCall, true);
            if (isCall) {
                shown.add(call.group(1));
                run.append(run.length() > 0 ? "; " : "").append(call.group(1)).append(' ');
                run.append(call.group(2).replace(",", "")).append(" = ");
                run.append(call.group(3).replace("throws ", "throws."));
            }
        }
        CHECKS.same("README.md: " + run, new EdgeRun(run.toString()).fault(), "");
    }

    private void allIsShown() {
        for (Method method : Bestratios.class.getMethods()) {
            if (method.getDeclaringClass() == Bestratios.class) {
                CHECKS.same("README.md shows " + method.getName(),
                        shown.contains(method.getName()), true);
            }
        }
    }

    private static void commandsAreThere(List<List<String>> blocks) {
        CHECKS.same("README.md tells how to run the tests", blocks.size(), 1);
        for (List<String> block : blocks) {
            for (String command : block) {
                CHECKS.same(command + " can be run", Files.isExecutable(Path.of(command)), true);
            }
        }
    }

    private static void testsAreTold(String readme) throws IOException {
        try (var files = Files.list(Path.of("src/test/java"))) {
            for (Path file : (Iterable<Path>) files::iterator) {
                String name = file.getFileName().toString().replace(".java", "");
                if (name.endsWith("Test")) {
                    CHECKS.same("README.md tells of " + name, readme.contains("`" + name + "`"),
                            true);
                }
            }
        }
    }
}
