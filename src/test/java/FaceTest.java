import java.io.IOException;
import java.lang.reflect.Constructor;
import java.lang.reflect.Executable;
import java.lang.reflect.Field;
import java.lang.reflect.Method;
import java.lang.reflect.Modifier;
import java.nio.file.Files;
import java.nio.file.Path;
import java.util.ArrayList;
import java.util.HashSet;
import java.util.List;
import java.util.Set;
import java.util.TreeSet;
import java.util.regex.Matcher;
import java.util.regex.Pattern;

/** The face is the document's own, and the source keeps to what LANGUAGE.md leaves of Java. */
public final class FaceTest {
    private static final Checks CHECKS = new Checks("FaceTest");

    private FaceTest() {
    }

    /** The argument: the folder in which the document stands. */
    public static void main(String[] args) throws IOException {
        String document = Files.readString(Path.of(args[0], "DOC.md"));
        String source = Files.readString(Path.of("src/main/java/Bestratios.java"));
        faceIsThatOf(document);
        membersArePrivate();
        wordsAreAllowed(source);
        methodsAreShort(source);
        CHECKS.end();
    }

    private static void faceIsThatOf(String document) {
        int start = document.indexOf("public final class Bestratios {");
        String face = document.substring(start, document.indexOf("```", start));
        Set<String> due = new TreeSet<>();
        Matcher lines = Pattern.compile("    public ([^;]*);").matcher(face);
        while (lines.find()) {
            due.add(lines.group(1).replaceAll("(int|boolean) [a-zA-Z]+([,)])", "$1$2"));
        }
        Set<String> got = new TreeSet<>();
        for (Constructor<?> made : Bestratios.class.getConstructors()) {
            got.add(signature("", made));
        }
        for (Method method : Bestratios.class.getDeclaredMethods()) {
            if (Modifier.isPublic(method.getModifiers())) {
                got.add(signature(method.getReturnType().getSimpleName() + " ", method));
            }
        }
        CHECKS.same("methods in the document", due.size(), 44);
        CHECKS.same("the face", got, due);
        CHECKS.same("the class", Modifier.toString(Bestratios.class.getModifiers()),
                "public final");
    }

    private static String signature(String returns, Executable made) {
        StringBuilder out = new StringBuilder(returns).append(made.getName()).append('(');
        for (Class<?> type : made.getParameterTypes()) {
            out.append(out.charAt(out.length() - 1) == '(' ? "" : ", ");
            out.append(type.getSimpleName());
        }
        out.append(')');
        String word = " throws ";
        for (Class<?> thrown : made.getExceptionTypes()) {
            out.append(word).append(thrown.getSimpleName());
            word = ", ";
        }
        return out.toString();
    }

    private static void membersArePrivate() {
        Set<String> publicNames = new HashSet<>();
        for (Method method : Bestratios.class.getMethods()) {
            publicNames.add(method.getName());
        }
        List<Class<?>> all = new ArrayList<>(List.of(Bestratios.class.getDeclaredClasses()));
        for (Class<?> inside : all) {
            CHECKS.same(inside + " is static", Modifier.isStatic(inside.getModifiers()), true);
        }
        for (Method method : Bestratios.class.getDeclaredMethods()) {
            boolean isPrivate = Modifier.isPrivate(method.getModifiers());
            CHECKS.same(method + " is public or private", isPrivate
                    || Modifier.isPublic(method.getModifiers()), true);
            CHECKS.same(method + " has a name of its own", isPrivate
                    && publicNames.contains(method.getName()), false);
        }
        all.add(Bestratios.class);
        CHECKS.same("not too many classes", all.size() <= 12, true);
        for (Class<?> each : all) {
            fieldsAreAllowed(each);
        }
    }

    private static void fieldsAreAllowed(Class<?> each) {
        int own = 0;
        for (Field field : each.getDeclaredFields()) {
            int kind = field.getModifiers();
            CHECKS.same(field + " is private", Modifier.isPrivate(kind), true);
            CHECKS.same(field + " is final if static",
                    !Modifier.isStatic(kind) || Modifier.isFinal(kind), true);
            own += Modifier.isStatic(kind) ? 0 : 1;
        }
        CHECKS.same(each + " has not too many fields", own <= 20, true);
    }

    /** Without comments, and without what stands inside texts and signs. */
    private static String bare(String source) {
        return source.replaceAll("(?s)/\\*.*?\\*/", "").replaceAll("//[^\n]*", "")
                .replaceAll("\"(\\\\.|[^\"\\\\\n])*\"", "\"\"")
                .replaceAll("'(\\\\.|[^'\\\\\n])'", "''");
    }

    private static void wordsAreAllowed(String source) {
        String code = bare(source);
        String[] ruledOut = {
            "->", "::", "\\bimport\\b", "\\bpackage\\b", "\\btry\\b", "\\bcatch\\b",
            "\\bfinally\\b", "\\bsynchronized\\b", "\\bassert\\b", "\\bstatic\\s*\\{",
            "\"\"\\s*\\+", "\\+\\s*\"\"", "\\+=\\s*\"\"", "Exact\\(", "\\bSystem\\.(?!arraycopy)",
            "\\bThread\\b", "\\bhashCode\\b", "\\bequals\\b", "\\bdouble\\b", "\\bfloat\\b",
            "\\bMath\\.(?!floorDiv\\b|max\\b)", "\\bLong\\.(?!compare\\b)",
            "\\bInteger\\.", "append\\((?!'|\\((int|char)\\)|REFUSED_TEXT|side)"
        };
        for (String pattern : ruledOut) {
            Matcher found = Pattern.compile(pattern).matcher(code);
            CHECKS.same("no " + pattern, found.find() ? found.group() : "", "");
        }
        for (int k = 0; k < source.length(); k++) {
            if (source.charAt(k) > 126) {
                CHECKS.same("plain signs", k, -1);
            }
        }
        // Each loop is a for, whose own line tells a bound.
        CHECKS.same("no while", Pattern.compile("\\bwhile\\b").matcher(code).find(), false);
    }

    private static void methodsAreShort(String source) {
        String[] lines = source.split("\n");
        int start = 0;
        for (int k = 0; k < lines.length; k++) {
            if (lines[k].matches(" {4}( {4})?[^ }].*\\{") || lines[k].matches(" {12}throws .*\\{")) {
                start = k;
            } else if (lines[k].matches(" {4}( {4})?\\}") && !lines[start].contains(" class ")) {
                CHECKS.same("short: " + lines[start].trim(), k - start <= 60, true);
            }
            CHECKS.same("line " + (k + 1) + " is not long", lines[k].length() <= 100, true);
        }
    }
}
