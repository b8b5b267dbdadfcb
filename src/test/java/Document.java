import java.io.IOException;
import java.io.UncheckedIOException;
import java.nio.charset.StandardCharsets;
import java.nio.file.Files;
import java.nio.file.Path;
import java.util.regex.Matcher;
import java.util.regex.Pattern;

/** The document by its promises (part 0: what stands ahead of them), and which of its words a test has quoted. */
final class Document {
    static final int PARTS = 41;
    private static final String[] NAMES = new String[PARTS];
    private final String[] texts = new String[PARTS];
    private final boolean[][] quoted = new boolean[PARTS][];

    Document(Path path) {
        String whole = read(path);
        texts[0] = plain(ahead(whole));
        Matcher promise = Pattern.compile("## Promise (\\d+): ([^\n]*)\n+`[^`]*`:([^\n]*)\n").matcher(whole);
        while (promise.find()) {
            int number = Integer.parseInt(promise.group(1));
            NAMES[number] = promise.group(2);
            texts[number] = plain(promise.group(3));
        }
        for (int part = 0; part < PARTS; part++) {
            texts[part] = texts[part] == null ? "" : texts[part];
            quoted[part] = new boolean[texts[part].length()];
        }
    }

    private static String read(Path path) {
        try {
            return Files.readString(path, StandardCharsets.UTF_8);
        } catch (IOException e) {
            throw new UncheckedIOException(e);
        }
    }

    /** The sentence on 512 calls, the terms, and of the interface's lines those that say more than a heading. */
    private static String ahead(String whole) {
        String calls = whole.substring(whole.indexOf("An object is used for"), whole.indexOf("## The public face"));
        String terms = whole.substring(whole.indexOf("## Terms") + 8, whole.indexOf("## Promise 1:"));
        return calls + terms
            .replaceAll("Ahead of the calls [^\n]* the interface says: ---- [^\n(]*\n", "\n")
            .replaceAll("Ahead of the calls [^\n]* the interface says: ----", " ")
            .replaceAll("```(text)?", " ").replace("========", " ");
    }

    private static String plain(String text) {
        return text.replace("`", "").replaceAll("\\s+", " ").trim();
    }

    static String name(int part) {
        return part == 0 ? "Terms" : "Promise " + part + " (" + NAMES[part] + ")";
    }

    boolean quote(int part, String words) {
        int from = texts[part].indexOf(words);
        boolean there = from >= 0;
        while (from >= 0) {
            for (int i = from; i < from + words.length(); i++) {
                quoted[part][i] = true;
            }
            from = texts[part].indexOf(words, from + 1);
        }
        return there;
    }

    /** What no test has quoted of a part; without a letter or a figure in it, nothing is. */
    String unquoted(int part) {
        StringBuilder rest = new StringBuilder();
        for (int i = 0; i < texts[part].length(); i++) {
            char sign = quoted[part][i] ? ' ' : texts[part].charAt(i);
            rest.append(Character.isLetterOrDigit(sign) ? sign : ' ');
        }
        return plain(rest.toString());
    }

    boolean isThere(int part) {
        return !texts[part].isEmpty();
    }
}
