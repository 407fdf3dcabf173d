import java.io.IOException;
import java.io.UncheckedIOException;
import java.nio.file.Files;
import java.nio.file.Path;
import java.util.LinkedHashMap;
import java.util.Map;
import java.util.Set;

/**
 * Tests that quote the document: each one stands with the sentence that it is for. A quote that the
 * document does not have is a failure, and so are words of a promise that no test quotes.
 */
abstract class Sentences extends Checks {
    private static final Path DOC = Path.of("../shared/DOC.md");

    /** Headings without sentences about answers; LanguageTests has the public face. */
    private static final Set<String> OTHERS = Set.of("", "FollowedLaws", "The public face", "Not promised");

    /** A section of the document, and which of its signs are quoted. */
    private static final class Section {
        final String text;
        final boolean[] quoted;

        Section(String text) {
            this.text = text;
            quoted = new boolean[text.length()];
        }
    }

    private static Map<String, Section> sections;
    private static String heading = "";
    private static String promises = "";
    static int sentences;

    // ---- the document

    private static void open() {
        sections = new LinkedHashMap<>();
        String title = "";
        StringBuilder text = new StringBuilder();
        for (String line : lines()) {
            if (line.startsWith("#")) {
                put(title, text);
                title = line.replaceFirst("^#+ ", "");
                text.setLength(0);
            } else {
                text.append(line.replaceFirst("^`\\w+ ?\\w*\\(.*?`: ", "").replaceFirst("^- ", "")).append(' ');
            }
        }
        put(title, text);
    }

    private static void put(String title, StringBuilder text) {
        if (!OTHERS.contains(title)) {
            sections.put(title, new Section(text.toString().replaceAll("\\s+", " ").trim()));
        }
    }

    private static Iterable<String> lines() {
        try {
            return Files.readAllLines(DOC);
        } catch (IOException e) {
            throw new UncheckedIOException(e);
        }
    }

    // ---- quotes

    /** What is quoted from now on stands below this heading. */
    static void section(String name) {
        if (sections == null) {
            open();
        }
        about = "the document";
        holds("a section " + name, sections.containsKey(name));
        heading = name;
        promises = name.startsWith("Promise ") ? name.replaceAll("\\D", "") : "";
    }

    /** A sentence of a promise, and its test. */
    static void says(String words, Runnable test) {
        says(promises, words, test);
    }

    /** A sentence that these promises use, and its test. */
    static void says(String of, String words, Runnable test) {
        sentences++;
        about = "promise " + of + ", \"" + words + "\"";
        quote(words);
        int ahead = passed + failed;
        try {
            test.run();
        } catch (RuntimeException e) {
            holds("it runs, but throws " + e, false);
        }
        holds("it checks something", passed + failed > ahead);
    }

    private static void quote(String words) {
        Section section = sections.get(heading);
        int from = section == null ? -1 : section.text.indexOf(words);
        holds("the document says it under " + heading, from >= 0);
        for (int k = from; from >= 0 && k < from + words.length(); k++) {
            section.quoted[k] = true;
        }
    }

    /** Each word of the sections is in a quote. */
    static void allIsQuoted() {
        for (Map.Entry<String, Section> entry : sections.entrySet()) {
            about = entry.getKey();
            Section section = entry.getValue();
            StringBuilder left = new StringBuilder();
            for (int k = 0; k < section.quoted.length; k++) {
                char sign = section.text.charAt(k);
                left.append(section.quoted[k] || !Character.isLetterOrDigit(sign) ? ' ' : sign);
            }
            same("what no test quotes", left.toString().replaceAll("\\s+", " ").trim(), "");
        }
    }
}
