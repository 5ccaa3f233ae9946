import java.io.IOException;
import java.nio.file.Files;
import java.nio.file.Path;
import java.util.ArrayList;
import java.util.List;
import java.util.Map;
import java.util.Set;
import java.util.TreeMap;
import java.util.regex.Matcher;
import java.util.regex.Pattern;

/** The rules of ../shared/LANGUAGE.md that can be seen in the text of the program. */
public final class LanguageTest {
    private static final Check CHECK = new Check("LanguageTest");
    private static final Set<String> LIBRARY = Set.of("Math.max", "Math.min", "Math.abs", "Arrays.fill",
            "System.arraycopy");
    private static final Set<String> THROWN = Set.of("IllegalStateException", "IllegalArgumentException",
            "IndexOutOfBoundsException");

    private static final Pattern HEAD = Pattern.compile(
            "( {4}| {8})(?:(?:public|private|static|int|void|boolean|long|double) )*(\\w+)\\([^;]*[,{)]");

    public static void main(String[] args) throws IOException {
        String source = Files.readString(Path.of("src/main/java/Stevedore.java"));
        CHECK.holds("all signs are 1 to 127", source.chars().allMatch(sign -> sign >= 1 && sign <= 127));
        String code = withoutComments(source);
        checkWords(code);
        checkThrows(code);
        checkLibrary(code);
        checkMethods(code);
        CHECK.end();
    }

    private static String withoutComments(String source) {
        String code = Pattern.compile("/\\*.*?\\*/", Pattern.DOTALL).matcher(source).replaceAll("");
        return code.replaceAll("//[^\n]*", "");
    }

    private static void absent(String code, String... patterns) {
        for (String pattern : patterns) {
            CHECK.holds("no " + pattern, !Pattern.compile(pattern).matcher(code).find());
        }
    }

    private static void checkWords(String code) {
        absent(code, "\\bpackage\\b", "\\bprotected\\b", "->", "::", "\\btry\\b", "\\bcatch\\b", "\\bfinally\\b",
                "\\bsynchronized\\b", "\\bassert\\b", "\\bvolatile\\b", "\\bnative\\b", "\\bstatic\\s*\\{",
                "\\bequals\\b", "\\bhashCode\\b", "\\btoString\\b", "\\bObject\\b", "\\bRandom\\b", "\\bThread\\b",
                "\\bfloat\\b", "Exact\\(", "\"\\s*\\+", "\\+\\s*\"", "[|&]=", "new \\w+\\(\\)\\s*\\{",
                "while \\(true", "for \\(;", "\\bNaN\\b");
        for (String line : code.split("\n")) {
            boolean isImport = line.startsWith("import ");
            CHECK.holds("no import but of java.util.Arrays", !isImport || line.equals("import java.util.Arrays;"));
            boolean isStaticField = line.contains(" static ") && line.contains("=") && !line.contains("(");
            CHECK.holds("static fields are final", !isStaticField || line.contains(" static final "));
        }
    }

    private static void checkThrows(String code) {
        Matcher found = Pattern.compile("\\bthrow\\b([^;]*);").matcher(code);
        int count = 0;
        while (found.find()) {
            count++;
            Matcher form = Pattern.compile(" new (\\w+)\\((\"[^\"]*\")?\\)").matcher(found.group(1));
            CHECK.holds("throw" + found.group(1), form.matches() && THROWN.contains(form.group(1)));
        }
        CHECK.holds("something is thrown", count > 0);
    }

    private static void checkLibrary(String code) {
        Matcher found = Pattern.compile("\\b([A-Z]\\w*\\.[a-z]\\w*)\\(").matcher(code);
        while (found.find()) {
            CHECK.holds("in the library: " + found.group(1), LIBRARY.contains(found.group(1)));
        }
    }

    /** Methods are told by their indent, which is 4 in the class and 8 in those inside it. */
    private static void checkMethods(String code) {
        List<String> lines = List.of(code.split("\n", -1));
        Map<String, String> bodies = new TreeMap<>();
        int count = 0;
        for (int i = 0; i < lines.size(); i++) {
            Matcher head = HEAD.matcher(lines.get(i));
            if (head.matches()) {
                count++;
                int end = lines.subList(i, lines.size()).indexOf(head.group(1) + "}");
                CHECK.holds("at most 60 lines: " + lines.get(i), end >= 0 && end < 60);
                int commas = lines.get(i).length() - lines.get(i).replace(",", "").length();
                CHECK.holds("at most 7 parameters: " + lines.get(i), commas < 7);
                bodies.merge(head.group(2), String.join("\n", lines.subList(i + 1, i + end)), String::concat);
            }
        }
        CHECK.holds("there are methods", count > 100);
        checkDepth(bodies);
    }

    /** Those of one name are taken for one, which can only make it deeper. */
    private static void checkDepth(Map<String, String> bodies) {
        int deepest = 0;
        for (String name : bodies.keySet()) {
            int depth = depth(bodies, name, List.of());
            CHECK.holds("at most eight deep: " + name + ", " + depth, depth <= 8);
            deepest = Math.max(deepest, depth);
        }
        CHECK.holds("some go deep: " + deepest, deepest > 4);
    }

    /** How deep the calls of a method go, itself counted; only tryOrders is a recursion. */
    private static int depth(Map<String, String> bodies, String name, List<String> open) {
        if (open.contains(name)) {
            CHECK.same("recursion", "tryOrders", name);
            return 0;
        }
        List<String> then = new ArrayList<>(open);
        then.add(name);
        int deepest = 0;
        Matcher found = Pattern.compile("(?<!new )\\b(\\w+)\\(").matcher(bodies.get(name));
        while (found.find()) {
            if (bodies.containsKey(found.group(1))) {
                deepest = Math.max(deepest, depth(bodies, found.group(1), then));
            }
        }
        return deepest + 1;
    }
}
