import java.io.IOException;
import java.io.UncheckedIOException;
import java.nio.file.Files;
import java.nio.file.Path;
import java.util.LinkedHashSet;
import java.util.Set;
import java.util.regex.Pattern;

/** The sentences of the document, and which of them a test has quoted. */
final class Document {
    private static final Set<String> LABELS = Set.of("Winds.", "Ballots.", "Rounds.", "Ties.", "Pairs and scores.",
            "Text.", "Undo.", "Exceptions.");
    private static final Pattern SIGNATURE = Pattern.compile("^`[^`]*`: ");
    private static final Set<String> SENTENCES = read();
    private static final Set<String> QUOTED = new LinkedHashSet<>();

    private Document() {
    }

    /** Begins the checks of a promise's sentences; only such as name no boundary case share their checks. */
    static void promise(int number, String... sentences) {
        quote("Promise " + number, sentences);
    }

    /** Begins the checks of sentences of the section "Terms". */
    static void terms(String... sentences) {
        quote("Terms", sentences);
    }

    static void quote(String section, String... sentences) {
        for (String sentence : sentences) {
            String place = section + ": " + sentence;
            Due.about(place);
            Due.compare("a look for the sentence in the document", "" + SENTENCES.contains(place), "true");
            QUOTED.add(place);
        }
    }

    /** Every sentence that names what a program can keep or break has been quoted. */
    static void isWholeDocument() {
        Due.about("the document");
        for (String sentence : SENTENCES) {
            Due.compare("a look for a test of <" + sentence + ">", QUOTED.contains(sentence) ? "one" : "none", "one");
        }
    }

    private static Set<String> read() {
        Set<String> sentences = new LinkedHashSet<>();
        try {
            for (String part : Files.readString(Path.of("../shared/DOC.md")).split("(?m)^## ")) {
                String heading = part.split("\n", 2)[0];
                if (heading.equals("What it is") || heading.equals("Terms") || heading.startsWith("Promise ")) {
                    addSection(sentences, heading.split(":")[0], part.substring(heading.length()));
                }
            }
        } catch (IOException e) {
            throw new UncheckedIOException(e);
        }
        return sentences;
    }

    private static void addSection(Set<String> sentences, String section, String text) {
        for (String paragraph : text.split("\n\\s*\n|\n(?=- )")) {
            String plain = paragraph.strip().replaceAll("\\s+", " ");
            boolean isParameter = plain.startsWith("- ");
            plain = isParameter ? plain.substring(2) : SIGNATURE.matcher(plain).replaceFirst("");
            for (String sentence : plain.split("(?<=\\.) (?=[A-Z])")) {
                if (namesSomething(sentence, isParameter)) {
                    sentences.add(section + ": " + sentence);
                }
            }
        }
    }

    /** A parameter's line counts if it tells a range. */
    private static boolean namesSomething(String sentence, boolean isParameter) {
        if (isParameter) {
            return sentence.matches(".*[0-9].*");
        }
        return !sentence.isEmpty() && !sentence.startsWith("Ahead of the calls") && !LABELS.contains(sentence);
    }
}
