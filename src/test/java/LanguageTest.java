import java.io.IOException;
import java.nio.charset.StandardCharsets;
import java.nio.file.Files;
import java.nio.file.Path;
import java.util.List;
import java.util.regex.Pattern;

/** The rules of ../shared/LANGUAGE.md that can be seen in the source line by line; the program is run from the root. */
final class LanguageTest {
    private static final Path SOURCE = Path.of("src/main/java/AcequiaGates.java");
    private static final int MOST_LINES_OF_A_METHOD = 60;
    private static final String[] RULED_OUT = {
        "^package\\b", "\\btry\\b", "\\bcatch\\b", "\\bfinally\\b", "\\bsynchronized\\b", "\\bassert\\b", "->", "::",
        "\\bSystem\\b", "\\w+Exact\\(", "\\bObject\\b", "\\bhashCode\\b", "\\btoString\\b", "\\bstatic (?!final\\b|abstract\\b)"
            + "[\\w\\[\\]]+ \\w+( =|;)", "\\bstatic \\{", "\\.getMessage\\b", "\\bNaN\\b", "[^\\x01-\\x7f]"
    };

    private LanguageTest() {
    }

    public static void main(String[] args) throws IOException {
        List<String> lines = Files.readAllLines(SOURCE, StandardCharsets.ISO_8859_1);
        for (String pattern : RULED_OUT) {
            Pattern ruledOut = Pattern.compile(pattern);
            Script.check("no line has " + pattern, lines.stream().noneMatch(line -> ruledOut.matcher(code(line)).find()));
        }
        Script.check("one import alone", lines.stream().filter(line -> line.startsWith("import ")).count() == 1
                && lines.contains("import java.util.NoSuchElementException;"));
        Script.check("at most twelve classes", lines.stream().filter(line -> line.contains(" class ")).count() <= 12);
        Script.check("methods are short", longestMethod(lines) <= MOST_LINES_OF_A_METHOD);
        Script.close("LanguageTest");
    }

    /** Comments may say what code may not. */
    private static String code(String line) {
        return line.replaceAll("^\\s*(/\\*\\*|\\*|//).*$", "");
    }

    private static int longestMethod(List<String> lines) {
        int longest = 0;
        for (int i = 0; i < lines.size(); i++) {
            String indent = lines.get(i).replaceAll("\\S.*", "");
            boolean begins = !lines.get(i).contains(" class ") && lines.get(i).endsWith("{")
                    && (indent.length() == 4 || indent.length() == 8);
            if (begins) {
                int end = i;
                while (!lines.get(end).equals(indent + "}") && end < lines.size() - 1) {
                    end++;
                }
                longest = Math.max(longest, end - i + 1);
            }
        }
        return longest;
    }
}
