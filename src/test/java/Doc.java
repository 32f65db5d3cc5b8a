import java.io.IOException;
import java.nio.file.Files;
import java.nio.file.Path;
import java.util.LinkedHashMap;
import java.util.Map;

/**
 * The document, section by section, and which of its words a test has quoted:
 * a test that quotes what the document does not say is wrong, and so is a
 * document with words that no test quotes.
 */
final class Doc {
    private static final Path FILE = Path.of("../shared/DOC.md");
    private static final Map<String, Section> SECTIONS = new LinkedHashMap<>();
    private static Section section;

    /** The words of one section, each white space as one space, and which of their signs are quoted. */
    private static final class Section {
        final String name;
        final String text;
        final boolean[] quoted;

        Section(String name, String text) {
            this.name = name;
            this.text = text;
            quoted = new boolean[text.length()];
        }
    }

    private Doc() {
    }

    static void read() throws IOException {
        String[] parts = Files.readString(FILE).split("(?m)^## ");
        for (String part : parts) {
            int end = part.indexOf('\n');
            String name = part.substring(0, end).trim();
            SECTIONS.put(name, new Section(name, words(withoutCode(part.substring(end)))));
        }
    }

    /** Leaves out the signatures, which FaceTest looks at, and the lines that part groups of promises. */
    private static String withoutCode(String text) {
        return text.replaceAll("(?m)^`[^`]*\\)[^`]*`$", "").replaceAll("(?s)```.*?```", "")
            .replaceAll("(?m)^----.*$", "");
    }

    private static String words(String text) {
        return text.replaceAll("\\s+", " ");
    }

    /** The section whose name begins so is the one that is quoted from now on. */
    static void open(String beginning) {
        section = null;
        for (Section one : SECTIONS.values()) {
            if (one.name.equals(beginning) || one.name.startsWith(beginning + ":")) {
                section = one;
            }
        }
        Check.about(beginning);
        Check.due("a section of the document has this name", true, section != null);
    }

    /** What is checked from now on is what the section says so. */
    static void says(String sentence) {
        Check.about((section == null ? "" : section.name) + " / " + sentence);
        String words = words(sentence);
        int place = section == null ? -1 : placeOf(words);
        Check.due("the document says so", true, place >= 0);
        for (int i = 0; place >= 0 && i < words.length(); i++) {
            section.quoted[place + i] = true;
        }
    }

    /** The first place of the words that is not quoted yet, or else the last place of all. */
    private static int placeOf(String words) {
        int found = -1;
        for (int at = section.text.indexOf(words); at >= 0; at = section.text.indexOf(words, at + 1)) {
            found = at;
            if (!section.quoted[at]) {
                break;
            }
        }
        return found;
    }

    /** Tells what the description and the promises say, and no test has quoted. */
    static void demandAllQuoted() {
        for (Section one : SECTIONS.values()) {
            if (one.name.equals("Description") || one.name.startsWith("Promise ")) {
                Check.about(one.name);
                Check.due("words that no test quotes: " + unquoted(one), true, unquoted(one).isEmpty());
            }
        }
    }

    private static String unquoted(Section one) {
        StringBuilder rest = new StringBuilder();
        for (int i = 0; i < one.text.length(); i++) {
            boolean left = !one.quoted[i];
            rest.append(left ? one.text.charAt(i) : ' ');
        }
        String words = words(rest.toString()).trim();
        return words.replaceAll("[^A-Za-z0-9]", "").isEmpty() ? "" : words;
    }
}
