import java.io.IOException;
import java.nio.file.Files;
import java.nio.file.Path;
import java.util.List;
import java.util.Set;
import java.util.regex.Matcher;
import java.util.regex.Pattern;

/** The rules of ../shared/LANGUAGE.md that can be seen in the text of the program. */
public final class LanguageTest {
    private static final Check CHECK = new Check("LanguageTest");
    private static final Set<String> LIBRARY = Set.of("Math.max", "Math.min", "Math.abs", "Arrays.fill",
            "System.arraycopy");
    private static final Set<String> THROWN = Set.of("IllegalStateException", "IllegalArgumentException",
            "IndexOutOfBoundsException");

    public static void main(String[] args) throws IOException {
        String source = Files.readString(Path.of("src/main/java/Stevedore.java"));
        CHECK.holds("all signs are 1 to 127", source.chars().allMatch(sign -> sign >= 1 && sign <= 127));
        String code = withoutComments(source);
        checkWords(code);
        checkThrows(code);
        checkLibrary(code);
        checkMethods(code);
        CHECK.end();
    }

    private static String withoutComments(String source) {
        String code = Pattern.compile("/\\*.*?\\*/", Pattern.DOTALL).matcher(source).replaceAll("");
        return code.replaceAll("//[^\n]*", "");
    }

    private static void absent(String code, String... patterns) {
        for (String pattern : patterns) {
            CHECK.holds("no " + pattern, !Pattern.compile(pattern).matcher(code).find());
        }
    }

    private static void checkWords(String code) {
        absent(code, "\\bpackage\\b", "\\bprotected\\b", "->", "::", "\\btry\\b", "\\bcatch\\b", "\\bfinally\\b",
                "\\bsynchronized\\b", "\\bassert\\b", "\\bvolatile\\b", "\\bnative\\b", "\\bstatic\\s*\\{",
                "\\bequals\\b", "\\bhashCode\\b", "\\btoString\\b", "\\bObject\\b", "\\bRandom\\b", "\\bThread\\b",
                "\\bfloat\\b", "Exact\\(", "\"\\s*\\+", "\\+\\s*\"", "[|&]=", "new \\w+\\(\\)\\s*\\{");
        for (String line : code.split("\n")) {
            boolean isImport = line.startsWith("import ");
            CHECK.holds("no import but of java.util.Arrays", !isImport || line.equals("import java.util.Arrays;"));
            boolean isStaticField = line.contains(" static ") && line.contains("=") && !line.contains("(");
            CHECK.holds("static fields are final", !isStaticField || line.contains(" static final "));
        }
    }

    private static void checkThrows(String code) {
        Matcher found = Pattern.compile("\\bthrow\\b([^;]*);").matcher(code);
        int count = 0;
        while (found.find()) {
            count++;
            Matcher form = Pattern.compile(" new (\\w+)\\((\"[^\"]*\")?\\)").matcher(found.group(1));
            CHECK.holds("throw" + found.group(1), form.matches() && THROWN.contains(form.group(1)));
        }
        CHECK.holds("something is thrown", count > 0);
    }

    private static void checkLibrary(String code) {
        Matcher found = Pattern.compile("\\b([A-Z]\\w*\\.[a-z]\\w*)\\(").matcher(code);
        while (found.find()) {
            CHECK.holds("in the library: " + found.group(1), LIBRARY.contains(found.group(1)));
        }
    }

    /** Methods are told by their indent, which is 4 in the class and 8 in those inside it. */
    private static void checkMethods(String code) {
        List<String> lines = List.of(code.split("\n", -1));
        int count = 0;
        for (int i = 0; i < lines.size(); i++) {
            Matcher head = Pattern.compile("( {4}| {8})[A-Za-z][^=;]*\\(.*").matcher(lines.get(i));
            if (head.matches() && !lines.get(i).contains(" class ")) {
                count++;
                int end = lines.subList(i, lines.size()).indexOf(head.group(1) + "}");
                CHECK.holds("at most 60 lines: " + lines.get(i), end >= 0 && end < 60);
                int commas = lines.get(i).length() - lines.get(i).replace(",", "").length();
                CHECK.holds("at most 7 parameters: " + lines.get(i), commas < 7);
            }
        }
        CHECK.holds("there are methods", count > 100);
    }
}
