import java.io.IOException;
import java.nio.charset.StandardCharsets;
import java.nio.file.Files;
import java.nio.file.Path;
import java.util.Collections;
import java.util.List;
import java.util.Set;
import java.util.TreeSet;
import java.util.regex.Pattern;

/** The rules of ../shared/LANGUAGE.md that can be seen in the source; the program is run from the root. */
final class LanguageTest {
    private static final Path SOURCE = Path.of("src/main/java/AcequiaGates.java");
    /** What the class needs of the library that the language allows. */
    private static final Set<String> LIBRARY = Set.of("Math.min", "Math.floorMod", "Integer.bitCount", "Object.<init>");
    private static final String EXCEPTION = "(IllegalState|IllegalArgument|IndexOutOfBounds|Arithmetic|"
            + "UnsupportedOperation|NoSuchElement)Exception";
    private static final String[] RULED_OUT = {
        "^package\\b", "\\btry\\b", "\\bcatch\\b", "\\bfinally\\b", "\\bsynchronized\\b", "\\bassert\\b", "->", "::",
        "\\bSystem\\b", "\\w+Exact\\(", "\\bObject\\b", "\\bhashCode\\b", "\\btoString\\b", "\\bstatic (?!final\\b|abstract\\b)"
            + "[\\w\\[\\]]+ \\w+( =|;)", "\\bstatic \\{", "\\.getMessage\\b", "\\bNaN\\b", "[^\\x01-\\x7f]"
    };

    private LanguageTest() {
    }

    public static void main(String[] args) throws IOException {
        List<String> lines = Files.readAllLines(SOURCE, StandardCharsets.ISO_8859_1);
        for (String pattern : RULED_OUT) {
            Pattern ruledOut = Pattern.compile(pattern);
            Script.check("no line has " + pattern, lines.stream().noneMatch(line -> ruledOut.matcher(code(line)).find()));
        }
        Script.check("one import alone", lines.stream().filter(line -> line.startsWith("import ")).count() == 1
                && lines.contains("import java.util.NoSuchElementException;"));
        structure(SourceTree.of(SOURCE));
        Script.close("LanguageTest");
    }

    /** Comments may say what code may not. */
    private static String code(String line) {
        return line.replaceAll("^\\s*(/\\*\\*|\\*|//).*$", "");
    }

    private static void structure(SourceTree tree) {
        Script.check("at most twelve classes", tree.fields.size() <= 12);
        Script.check("classes inside are static and not shared: " + tree.sharedClasses, tree.sharedClasses.isEmpty());
        Script.check("at most twenty fields: " + tree.fields, Collections.max(tree.fields.values()) <= 20);
        Script.check("methods are short: " + tree.lines, Collections.max(tree.lines.values()) <= 60);
        Script.check("at most seven parameters", Collections.max(tree.parameters.values()) <= 7);
        Script.check("calls go at most eight deep: " + tree.longestChain(), tree.longestChain().size() <= 8);
        Script.check("no recursion: " + tree.longestChain(), !tree.isRecursive());
        Set<String> library = new TreeSet<>(tree.library);
        library.removeAll(LIBRARY);
        library.removeIf(name -> name.matches(EXCEPTION + "\\.<init>"));
        Script.check("no other library than is used now: " + library, library.isEmpty());
        for (String thrown : tree.thrown) {
            Script.check("thrown as it may be: " + thrown, !thrown.contains("<init>")
                    && thrown.matches(".*: new " + EXCEPTION + "\\((\"[^\"]*\")?\\)"));
        }
    }
}
