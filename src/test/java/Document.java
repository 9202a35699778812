import java.io.IOException;
import java.nio.file.Files;
import java.nio.file.Path;
import java.util.Arrays;
import java.util.LinkedHashMap;
import java.util.Map;

/** The text of DOC.md, so that a test can name its sentence, and a sentence without a test is seen. */
final class Document {
    private static final Path PLACE = Path.of("../shared/DOC.md");
    private static final Map<String, String> TEXTS = read();
    private static final Map<String, boolean[]> QUOTED = new LinkedHashMap<>();

    private Document() {
    }

    private static Map<String, String> read() {
        Map<String, String> texts = new LinkedHashMap<>();
        try {
            for (String section : Files.readString(PLACE).split("(?m)^## ")) {
                String heading = section.lines().findFirst().orElse("");
                texts.put(heading.split(":")[0], plain(section.substring(heading.length())));
            }
        } catch (IOException missing) {
            // The answers can be tested without it; only the quotes can't.
            System.out.println("no document at " + PLACE + ": the quotes are not looked up");
        }
        return texts;
    }

    /** Without marks for blocks, without the faces of the methods, and with single spaces. */
    private static String plain(String text) {
        return text.replaceAll("```(text|java)?", " ").replaceAll("`[^`]*`", " ").replace("====", " ")
            .replaceAll("\\s+", " ").trim();
    }

    static String text(String section) {
        return TEXTS.getOrDefault(section, "");
    }

    private static boolean[] quoted(String section) {
        return QUOTED.computeIfAbsent(section, each -> new boolean[text(each).length()]);
    }

    /** Answers whether these words stand in that section. */
    static boolean quote(String section, String words) {
        int first = text(section).indexOf(words);
        for (int from = first; from >= 0; from = text(section).indexOf(words, from + 1)) {
            Arrays.fill(quoted(section), from, from + words.length(), true);
        }
        return first >= 0 || TEXTS.isEmpty();
    }

    /** Answers what of a section no test has quoted, but for marks between sentences. */
    static String left(String section) {
        StringBuilder rest = new StringBuilder(text(section));
        for (int i = 0; i < rest.length(); i++) {
            if (quoted(section)[i]) {
                rest.setCharAt(i, ' ');
            }
        }
        return rest.toString().replaceAll("[^A-Za-z0-9]+", " ").trim();
    }
}
