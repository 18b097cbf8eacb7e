import java.io.IOException;
import java.io.UncheckedIOException;
import java.nio.file.Files;
import java.nio.file.Path;
import java.util.ArrayList;
import java.util.Arrays;
import java.util.LinkedHashMap;
import java.util.LinkedHashSet;
import java.util.List;
import java.util.Map;
import java.util.Set;
import java.util.concurrent.Callable;

/**
 * The sentence of the document that is being tested: each answer is asked for one. So a wrong answer names the sentence
 * that it breaks, and a sentence that no test names is found.
 */
final class Sentences {
    private static final Path DOCUMENT = Path.of("../shared/DOC.md");

    private static final Map<String, List<String>> named = new LinkedHashMap<>();
    private static final Set<String> said = new LinkedHashSet<>();
    private static final Set<String> asked = new LinkedHashSet<>();
    private static final Set<String> broken = new LinkedHashSet<>();
    private static String section = "";
    private static String sentence = "";

    private Sentences() {
    }

    /** The section that the following sentences stand in, by the first words of its heading. */
    static void in(String heading) {
        section = heading;
        sentence = heading;
    }

    /** The sentence that the following answers are asked for. */
    static void says(String words) {
        named.computeIfAbsent(section, key -> new ArrayList<>()).add(words);
        sentence = section + ": " + words;
        said.add(sentence);
    }

    /** Words that no answer can be asked for: captions, and what other tests look at. */
    static void leaves(String... captions) {
        named.computeIfAbsent(section, key -> new ArrayList<>()).addAll(List.of(captions));
    }

    static void due(String call, Callable<?> answer, Object want) {
        int wrongBefore = Due.wrong();
        Due.due(sentence + " | " + call, answer, want);
        asked.add(sentence);
        if (Due.wrong() > wrongBefore) {
            broken.add(sentence);
        }
    }

    /** All sentences that were named to ask for answers, each with its section ahead. */
    static Set<String> said() {
        return said;
    }

    /** The sentences for which an answer was wrong, each with its section ahead. */
    static Set<String> broken() {
        return broken;
    }

    /** Each sentence that was named must be the document's and have been asked for, and none may be left over. */
    static void compareWithDocument() {
        for (String words : said) {
            Due.same("an answer is asked for " + words, asked.contains(words), true);
        }
        named.forEach((heading, sentences) -> compareSection(heading, sentences));
    }

    private static void compareSection(String heading, List<String> sentences) {
        String text = textOf(heading);
        boolean[] covered = new boolean[text.length()];
        for (String words : sentences) {
            Due.same("'" + words + "' stands in " + heading, text.contains(words), true);
            for (int at = text.indexOf(words); at >= 0; at = text.indexOf(words, at + 1)) {
                Arrays.fill(covered, at, at + words.length(), true);
            }
        }
        StringBuilder rest = new StringBuilder();
        for (int i = 0; i < covered.length; i++) {
            rest.append(covered[i] ? ' ' : text.charAt(i));
        }
        Due.same("what no test names of " + heading, rest.toString().replaceAll("[\\s.:;,|-]+", " ").strip(), "");
    }

    /** Without the signature of a promise, which FaceTest compares. */
    private static String textOf(String heading) {
        StringBuilder text = new StringBuilder();
        boolean inside = false;
        for (String line : linesOfDocument()) {
            if (line.startsWith("## ")) {
                inside = line.equals("## " + heading) || line.startsWith("## " + heading + ":");
            } else if (inside && !line.startsWith("```")) {
                text.append(' ').append(line.replaceAll("^`[^`]*\\([^`]*`: ?", ""));
            }
        }
        Due.same("the section " + heading + " is there", text.length() > 0, true);
        return text.toString().replaceAll("\\s+", " ");
    }

    private static List<String> linesOfDocument() {
        try {
            return Files.readAllLines(DOCUMENT);
        } catch (IOException e) {
            throw new UncheckedIOException(e);
        }
    }

}
