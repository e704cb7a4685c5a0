import java.io.DataInputStream;
import java.io.IOException;
import java.io.InputStream;
import java.lang.reflect.Executable;
import java.lang.reflect.Field;
import java.lang.reflect.Method;
import java.lang.reflect.Modifier;
import java.nio.file.Files;
import java.nio.file.Path;
import java.util.ArrayList;
import java.util.HashSet;
import java.util.List;
import java.util.Set;
import java.util.TreeSet;
import java.util.regex.Matcher;
import java.util.regex.Pattern;

/**
 * The source keeps to LANGUAGE.md, as far as its words, its members and the names of what it
 * calls can tell. Nothing else of how it is written is asked for here.
 */
public final class RuleTest {
    private static final Checks CHECKS = new Checks("RuleTest");

    /** Rule 4, with what the compiler itself calls for lists, enums and records. */
    private static final String[] LIBRARY = {
        "Object\\.<init>\\(\\)V",
        "String\\.(length\\(\\)I|charAt\\(I\\)C|isEmpty\\(\\)Z|equals\\(Object\\)Z|indexOf\\(I\\)I"
                + "|substring\\(II?\\)String|toCharArray\\(\\)\\[C|<init>\\(\\[C\\)V)",
        "StringBuilder\\.(<init>\\(I?\\)V|append\\((C|I|String)\\)StringBuilder|charAt\\(I\\)C"
                + "|setCharAt\\(IC\\)V|setLength\\(I\\)V|deleteCharAt\\(I\\)StringBuilder"
                + "|reverse\\(\\)StringBuilder|length\\(\\)I|toString\\(\\)String)",
        "(ArrayList|List)\\.(<init>|add|get|set|remove\\(I\\)Object|size|isEmpty|clear|iterator"
                + "|of\\().*",
        "(Iterator|Iterable|Comparable)\\..*",
        "Integer\\.(valueOf\\(I\\)Integer|intValue\\(\\)I)",
        "(Integer|Long|Math)\\.(?!\\w*Exact\\()\\w+\\([IJ]+\\)[IJ]",
        "System\\.arraycopy\\(.*",
        "Arrays\\.(copyOf|copyOfRange|fill)\\(\\[[IJSBCZDF].*",
        "\\[+[IJSBCZDF]\\.clone\\(\\)Object",
        "\\[Bestratios.*\\.clone\\(\\)Object",
        "(Enum|Record)\\.(<init>|valueOf|ordinal)\\(.*",
        "ObjectMethods\\.bootstrap\\(.*",
        "(IllegalState|IllegalArgument|IndexOutOfBounds|Arithmetic|UnsupportedOperation"
                + "|NoSuchElement|Runtime)Exception\\.<init>\\((String)?\\)V"
    };

    /** What a look at the words can tell, by the number of the rule. */
    private static final String[][] RULED_OUT = {
        {"1", "\\bpackage\\b"},
        {"2", "::"},
        {"4", "\\bimport\\b(?! java\\.util\\.(ArrayList|List|Iterator|Arrays"
                + "|NoSuchElementException);)"},
        {"5", "\\bstatic\\s*\\{"},
        {"6", "\\bfinally\\b"},
        {"6", "\\btry\\s*\\("},
        {"6", "\\bsynchronized\\b"},
        {"6", "\\bassert\\b"},
        {"6", "\\bextends \\w*(Exception|Throwable|Error)\\b"},
        {"6", "\\b(boolean equals|int hashCode|String toString)\\("}
    };

    private RuleTest() {
    }

    public static void main(String[] args) throws IOException {
        String source = Files.readString(Path.of("src/main/java/Bestratios.java"));
        List<Class<?>> classes = new ArrayList<>(List.of(Bestratios.class));
        classes.addAll(List.of(Bestratios.class.getDeclaredClasses()));
        CHECKS.same("11: not too many classes", classes.size() <= 12, true);
        membersAreHidden();
        for (Class<?> each : classes) {
            shapeIsAllowed(each);
            libraryIsAllowed(each);
        }
        wordsAreAllowed(source);
        methodsAreShort(source);
        CHECKS.end();
    }

    private static void membersAreHidden() {
        Set<String> face = new HashSet<>();
        for (Method method : Bestratios.class.getMethods()) {
            face.add(method.getName());
        }
        for (Method method : Bestratios.class.getDeclaredMethods()) {
            int kind = method.getModifiers();
            if (!Modifier.isPublic(kind) && !method.isSynthetic()) {
                CHECKS.same("1: " + method + " is private", Modifier.isPrivate(kind), true);
                CHECKS.same("1: " + method + " has a name of its own",
                        face.contains(method.getName()), false);
            }
        }
        for (Field field : Bestratios.class.getDeclaredFields()) {
            CHECKS.same("1: " + field + " is private",
                    Modifier.isPrivate(field.getModifiers()) || field.isSynthetic(), true);
        }
        for (Class<?> inside : Bestratios.class.getDeclaredClasses()) {
            int kind = inside.getModifiers();
            CHECKS.same("1: " + inside + " is hidden",
                    Modifier.isPublic(kind) || Modifier.isProtected(kind), false);
            CHECKS.same("1: " + inside + " is static", Modifier.isStatic(kind), true);
        }
    }

    private static void shapeIsAllowed(Class<?> each) {
        int own = 0;
        for (Field field : each.getDeclaredFields()) {
            int kind = field.getModifiers();
            CHECKS.same("5: " + field + " is final if static",
                    !Modifier.isStatic(kind) || Modifier.isFinal(kind), true);
            own += Modifier.isStatic(kind) ? 0 : 1;
        }
        CHECKS.same("11: " + each + " has not too many fields", own <= 20, true);
        List<Executable> all = new ArrayList<>(List.of(each.getDeclaredMethods()));
        all.addAll(List.of(each.getDeclaredConstructors()));
        for (Executable called : all) {
            CHECKS.same("11: " + called + " has not too many parameters",
                    called.getParameterCount() <= 7 || called.isSynthetic(), true);
        }
    }

    private static void libraryIsAllowed(Class<?> each) throws IOException {
        for (String called : calledBy(each)) {
            boolean isAllowed = called.startsWith("Bestratios");
            for (String pattern : LIBRARY) {
                isAllowed |= called.matches(pattern);
            }
            CHECKS.same("4: " + each.getName() + " may call " + called, isAllowed, true);
        }
    }

    /** All methods and fields that the compiled class names, as "Math.max(II)I". */
    private static Set<String> calledBy(Class<?> each) throws IOException {
        try (InputStream bytes = each.getResourceAsStream("/" + each.getName() + ".class");
                DataInputStream in = new DataInputStream(bytes)) {
            in.skipBytes(8);
            int count = in.readUnsignedShort();
            String[] texts = new String[count];
            int[][] pairs = new int[count][];
            List<int[]> members = new ArrayList<>();
            for (int k = 1; k < count; k++) {
                int tag = in.readUnsignedByte();
                if (tag == 1) {
                    texts[k] = in.readUTF();
                } else if (tag == 7 || tag == 8 || tag == 16) {
                    pairs[k] = new int[] {in.readUnsignedShort()};
                } else if (tag == 15) {
                    in.skipBytes(3);
                } else {
                    pairs[k] = new int[] {in.readUnsignedShort(), in.readUnsignedShort()};
                    if (tag >= 9 && tag <= 11) {
                        members.add(pairs[k]);
                    }
                    if (tag == 5 || tag == 6) {
                        // A number of 64 bits takes two places of the table.
                        in.skipBytes(4);
                        k++;
                    }
                }
            }
            return namesOf(members, pairs, texts);
        }
    }

    private static Set<String> namesOf(List<int[]> members, int[][] pairs, String[] texts) {
        Set<String> names = new TreeSet<>();
        for (int[] member : members) {
            int[] name = pairs[member[1]];
            String of = texts[pairs[member[0]][0]];
            names.add(plain(of) + "." + texts[name[0]] + plain(texts[name[1]]));
        }
        return names;
    }

    /** Without the packages: "(Ljava/lang/String;)V" as "(String)V". */
    private static String plain(String type) {
        return type.replaceAll("L(?:[\\w$]+/)*([\\w$]+);", "$1").replaceAll("^(?:\\w+/)+", "");
    }

    /** Without comments, and without what stands inside texts and signs. */
    private static String bare(String source) {
        return source.replaceAll("(?s)/\\*.*?\\*/", "").replaceAll("//[^\n]*", "")
                .replaceAll("\"(\\\\.|[^\"\\\\\n])*\"", "\"\"")
                .replaceAll("'(\\\\.|[^'\\\\\n])'", "''");
    }

    private static void wordsAreAllowed(String source) {
        String code = bare(source);
        for (String[] rule : RULED_OUT) {
            Matcher found = Pattern.compile(rule[1]).matcher(code);
            CHECKS.same(rule[0] + ": no " + rule[1], found.find() ? found.group() : "", "");
        }
        for (int k = 0; k < source.length(); k++) {
            if (source.charAt(k) > 127) {
                CHECKS.same("4: a plain sign at " + k, source.charAt(k), ' ');
            }
        }
    }

    private static void methodsAreShort(String source) {
        String[] lines = source.split("\n");
        int start = 0;
        for (int k = 0; k < lines.length; k++) {
            if (lines[k].matches(" {4}( {4})?[^ }].*\\{") || lines[k].matches(" {12}throws .*\\{")) {
                start = k;
            } else if (lines[k].matches(" {4}( {4})?\\}") && !lines[start].contains(" class ")) {
                CHECKS.same("11: short: " + lines[start].trim(), k - start <= 60, true);
            }
        }
    }
}
