import java.io.IOException;
import java.lang.reflect.Constructor;
import java.lang.reflect.Executable;
import java.lang.reflect.Method;
import java.lang.reflect.Modifier;
import java.nio.file.Files;
import java.nio.file.Path;
import java.util.Set;
import java.util.TreeSet;
import java.util.regex.Matcher;
import java.util.regex.Pattern;

/** The public face is the document's own: no call less, and none more. */
public final class FaceTest {
    private static final Checks CHECKS = new Checks("FaceTest");

    private FaceTest() {
    }

    /** The argument: the folder in which the document stands. */
    public static void main(String[] args) throws IOException {
        String document = Files.readString(Path.of(args[0], "DOC.md"));
        faceIsThatOf(document);
        CHECKS.end();
    }

    private static void faceIsThatOf(String document) {
        int start = document.indexOf("public final class Bestratios {");
        String face = document.substring(start, document.indexOf("```", start));
        Set<String> due = new TreeSet<>();
        Matcher lines = Pattern.compile("    public ([^;]*);").matcher(face);
        while (lines.find()) {
            due.add(lines.group(1).replaceAll("(int|boolean) [a-zA-Z]+([,)])", "$1$2"));
        }
        Set<String> got = new TreeSet<>();
        for (Constructor<?> made : Bestratios.class.getConstructors()) {
            got.add(signature("", made));
        }
        for (Method method : Bestratios.class.getDeclaredMethods()) {
            if (Modifier.isPublic(method.getModifiers())) {
                got.add(signature(method.getReturnType().getSimpleName() + " ", method));
            }
        }
        CHECKS.same("methods in the document", due.size(), 44);
        CHECKS.same("the face", got, due);
        CHECKS.same("the class", Modifier.toString(Bestratios.class.getModifiers()),
                "public final");
        CHECKS.same("public constants", Bestratios.class.getFields().length, 0);
    }

    private static String signature(String returns, Executable made) {
        StringBuilder out = new StringBuilder(returns).append(made.getName()).append('(');
        for (Class<?> type : made.getParameterTypes()) {
            out.append(out.charAt(out.length() - 1) == '(' ? "" : ", ");
            out.append(type.getSimpleName());
        }
        out.append(')');
        String word = " throws ";
        for (Class<?> thrown : made.getExceptionTypes()) {
            out.append(word).append(thrown.getSimpleName());
            word = ", ";
        }
        return out.toString();
    }
}
