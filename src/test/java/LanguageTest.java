import java.io.IOException;
import java.nio.file.Files;
import java.nio.file.Path;
import java.util.List;
import java.util.regex.Matcher;
import java.util.regex.Pattern;

/**
 * What LANGUAGE.md asks of the source and can be seen in its text; FaceTest looks at the compiled
 * class. Run from the project's folder.
 */
public final class LanguageTest {
    private static final Check CHECK = new Check();
    private static final Path SOURCE = Path.of("src/main/java/ScorePress.java");
    private static final int MOST_LINES = 60;
    private static final int MOST_CLASSES = 12;

    /** Texts and comments may hold any word, so they are looked at apart from the code. */
    private static String withoutComments(String source) {
        return source.replaceAll("(?s)/\\*.*?\\*/", " ").replaceAll("//[^\n]*", " ");
    }

    private static String withoutTexts(String code) {
        return code.replaceAll("\"[^\"\n]*\"", "\"\"");
    }

    private static int count(String code, String pattern) {
        int found = 0;
        Matcher matcher = Pattern.compile(pattern).matcher(code);
        while (matcher.find()) {
            found++;
        }
        return found;
    }

    private static void none(String code, String what, String pattern) {
        CHECK.same(what, 0, count(code, pattern));
    }

    private static void allowed(String code, String pattern, List<String> names) {
        Matcher matcher = Pattern.compile(pattern).matcher(code);
        while (matcher.find()) {
            CHECK.same(matcher.group(1) + " is allowed", true, names.contains(matcher.group(1)));
        }
    }

    private static void oneFile(String code) {
        CHECK.promise("LANGUAGE.md, rules 1 and 4: one file, no package, nothing imported");
        none(code, "package lines", "(?m)^\\s*package\\b");
        none(code, "imports", "(?m)^\\s*import\\b");
        CHECK.same("public classes", 1, count(code, "\\bpublic\\s+(final\\s+)?(class|interface|enum|record)\\b"));
        int classes = count(code, "\\b(class|interface|enum|record)\\s+[A-Z]");
        CHECK.same("at most 12 classes", true, classes <= MOST_CLASSES);
    }

    private static void forms(String code) {
        CHECK.promise("LANGUAGE.md, rules 2, 5, 6 and 10: forms that are ruled out");
        none(code, "lambdas", "->");
        none(code, "method references", "::");
        none(code, "static initialiser blocks", "\\bstatic\\s*\\{");
        none(code, "words", "\\b(finally|synchronized|assert|volatile|transient|native|var|yield)\\b");
        none(code, "methods that every object has", "\\b(equals|hashCode|toString|getClass|getMessage)\\s*\\(");
        none(code, "texts joined by +", "\"\\s*\\+|\\+\\s*\"");
    }

    private static void library(String code) {
        CHECK.promise("LANGUAGE.md, rule 4: the library");
        allowed(code, "\\bMath\\.(\\w+)", List.of("max", "min", "abs", "floorDiv", "floorMod"));
        allowed(code, "\\bSystem\\.(\\w+)", List.of("arraycopy"));
        allowed(code, "\\bArrays\\.(\\w+)", List.of("copyOf", "copyOfRange", "fill"));
        none(code, "other packages", "\\b(java|javax|jdk|sun)\\.");
    }

    private static void exceptions(String code) {
        CHECK.promise("LANGUAGE.md, rule 6, and the machine's exceptions: thrown by the code itself, never caught");
        List<String> face = List.of("IndexOutOfBoundsException", "IllegalArgumentException", "IllegalStateException");
        allowed(code, "\\bthrow\\s+new\\s+(\\w+)", face);
        CHECK.same("each throw makes its exception", count(code, "\\bthrow\\b"), count(code, "\\bthrow\\s+new\\b"));
        none(code, "catches", "\\bcatch\\b");
    }

    /** Methods of a class begin four columns to the right of it, and end in the column of their first line. */
    private static void shortMethods(List<String> lines) {
        CHECK.promise("LANGUAGE.md, rule 11: a method stays short");
        int methods = 0;
        for (int first = 0; first < lines.size(); first++) {
            Matcher head = Pattern.compile("^(( {4}){1,2})[\\w<>\\[\\] ]*\\w\\(.*").matcher(lines.get(first));
            if (head.matches() && !lines.get(first).endsWith(";")) {
                int last = first;
                while (last < lines.size() - 1 && !lines.get(last).equals(head.group(1) + "}")) {
                    last++;
                }
                methods++;
                CHECK.same("at most 60 lines from the line " + (first + 1) + " on", true, last - first < MOST_LINES);
            }
        }
        CHECK.same("methods are found", true, methods > 20);
    }

    private static void characters(String source) {
        CHECK.promise("LANGUAGE.md, rule 4: the signs of constants are 1 to 127");
        int far = 0;
        for (int i = 0; i < source.length(); i++) {
            far += source.charAt(i) < 1 || source.charAt(i) > 127 ? 1 : 0;
        }
        CHECK.same("other signs in the source", 0, far);
    }

    /** The document says which line the interface has ahead of which calls. */
    private static void parts(String source) {
        CHECK.promise("Ahead of the calls .. the interface says: ---- ..");
        String[] order = {"// ---- the score\n", "public int setBars", "public int ticks", "// ---- elements\n",
            "public int addNote", "public int voice", "// ---- transposing, faults\n", "public int transpose",
            "public int interval", "// ---- playing\n", "public int event", "public long digest"};
        int behind = 0;
        for (String next : order) {
            int place = source.indexOf(next, behind);
            CHECK.same(next.trim() + " stands behind what is ahead of it", true, place >= behind);
            behind = Math.max(place, behind);
        }
    }

    public static void main(String[] arguments) throws IOException {
        String source = Files.readString(SOURCE);
        String code = withoutComments(source);
        oneFile(withoutTexts(code));
        forms(withoutTexts(code));
        library(withoutTexts(code));
        exceptions(withoutTexts(code));
        shortMethods(Files.readAllLines(SOURCE));
        characters(source);
        parts(source);
        CHECK.end();
    }
}
