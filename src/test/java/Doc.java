import java.io.IOException;
import java.io.UncheckedIOException;
import java.nio.charset.StandardCharsets;
import java.nio.file.Files;
import java.nio.file.Path;
import java.util.ArrayList;
import java.util.LinkedHashMap;
import java.util.LinkedHashSet;
import java.util.List;
import java.util.Map;
import java.util.Set;
import java.util.regex.Matcher;
import java.util.regex.Pattern;
import java.util.stream.Collectors;

/**
 * The sentences of ../shared/DOC.md, each under the place where it stands ("Gates", "5 garden"), and which of them
 * tests have named. A clause that ends in a semicolon counts as a sentence.
 */
final class Doc {
    private static final Path PATH = Path.of("../shared/DOC.md");
    private static final Pattern PROMISE = Pattern.compile("## Promise (\\d+): (.*)");
    /** The first words of a paragraph of the terms, as "Time." or "An hour goes by like this.". */
    private static final Pattern TERM = Pattern.compile("([A-Z][A-Za-z, ]{2,25})\\. (.*)");
    private static final Pattern FACE = Pattern.compile("(?s)```java(.*?)```");
    private static final Pattern EXAMPLE = Pattern.compile("[A-Z][^:(]*: (.*)\\.");

    private static final Map<String, List<String>> SENTENCES = new LinkedHashMap<>();
    private static final List<String> EXAMPLES = new ArrayList<>();
    private static final Set<String> NAMED = new LinkedHashSet<>();

    static {
        takeApart();
    }

    private Doc() {
    }

    static boolean isHere() {
        return Files.exists(PATH);
    }

    /**
     * Notes that a test names the sentence, and returns whether these words stand there in one sentence alone; without
     * the document there is nothing to look them up in.
     */
    static boolean name(String place, String words) {
        if (!isHere()) {
            return true;
        }
        int found = 0;
        for (String sentence : SENTENCES.getOrDefault(place, List.of())) {
            if (sentence.contains(words)) {
                NAMED.add(key(place, sentence));
                found++;
            }
        }
        return found == 1;
    }

    static List<String> unnamed() {
        List<String> unnamed = new ArrayList<>();
        SENTENCES.forEach((place, sentences) -> {
            for (String sentence : sentences) {
                if (!NAMED.contains(key(place, sentence))) {
                    unnamed.add(key(place, sentence));
                }
            }
        });
        return unnamed;
    }

    static int count() {
        return SENTENCES.values().stream().mapToInt(List::size).sum();
    }

    /** The examples as scripts, in the document's own words. */
    static List<String> examples() {
        return EXAMPLES;
    }

    /** The lines of the public face that tell a constructor or a method. */
    static List<String> face() {
        Matcher face = FACE.matcher(text());
        return !face.find() ? List.of() : face.group(1).lines().map(String::trim)
                .filter(line -> line.startsWith("public ") && line.endsWith(";")).collect(Collectors.toList());
    }

    private static String key(String place, String sentence) {
        return place + ": " + sentence;
    }

    private static void takeApart() {
        String place = "";
        for (String block : text().replaceAll("(?s)```.*?```", "").split("\n\\s*\n")) {
            if (block.startsWith("#")) {
                Matcher promise = PROMISE.matcher(block.trim());
                place = promise.matches() ? promise.group(1) + " " + promise.group(2) : block.replaceAll("^#+ *",
                        "").trim();
            } else if (!block.startsWith("Ahead of the calls")) {
                place = takeParagraph(place, block);
            }
        }
    }

    /** Returns the place in which the next paragraph stands. */
    private static String takeParagraph(String before, String block) {
        String place = before;
        for (String item : block.replaceAll("\n(?!- )\\s*", " ").split("\n")) {
            String text = item.replaceAll("^- ", "").replaceAll("^`[^`]*\\)[^`]*`: ", "").trim();
            boolean isPromise = !place.isEmpty() && Character.isDigit(place.charAt(0));
            Matcher term = TERM.matcher(text);
            if (!isPromise && term.matches()) {
                place = term.group(1);
                text = term.group(2);
            }
            Matcher example = EXAMPLE.matcher(text);
            if (place.equals("Examples") && example.matches()) {
                EXAMPLES.add(example.group(1));
            } else if (!text.isEmpty()) {
                addSentences(place, text);
            }
        }
        return place;
    }

    private static void addSentences(String place, String text) {
        List<String> sentences = SENTENCES.computeIfAbsent(place, key -> new ArrayList<>());
        for (String sentence : text.split("(?<=;) |(?<=\\.) (?=[A-Z])")) {
            sentences.add(sentence);
        }
    }

    private static String text() {
        try {
            return !isHere() ? "" : Files.readString(PATH, StandardCharsets.UTF_8);
        } catch (IOException e) {
            throw new UncheckedIOException(e);
        }
    }
}
