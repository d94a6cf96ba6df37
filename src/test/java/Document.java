import java.io.IOException;
import java.io.UncheckedIOException;
import java.nio.file.Files;
import java.nio.file.Path;
import java.util.Arrays;
import java.util.List;

/**
 * The words of the document without its code, and which of them are quoted. A quote is the number of a promise, or 0
 * for any place, a tab, and the words.
 */
final class Document {
    private final String words;
    private final boolean[] quoted;

    Document(String file) {
        words = wordsOf(file);
        quoted = new boolean[words.length()];
    }

    /** The face and the heads of the methods are left out: FaceTest looks at them by reflection. */
    private static String wordsOf(String file) {
        try {
            String text = Files.readString(Path.of(file));
            String promised = text.substring(0, text.indexOf("\n## Not promised"));
            return promised.replaceAll("(?s)```.*?```", "").replaceAll("(?m)^`[^`]*`: ", "").replace("`", "");
        } catch (IOException e) {
            throw new UncheckedIOException(e);
        }
    }

    /** Where the words of a quote stand in its section; -1 if they do not. */
    private int placeOf(String promise, String looked) {
        int begin = promise.equals("0") ? 0 : words.indexOf("\n## Promise " + promise + ":");
        int next = words.indexOf("\n## ", begin + 1);
        int end = promise.equals("0") || next < 0 ? words.length() : next;
        int at = begin < 0 ? -1 : words.indexOf(looked, begin);
        return at + looked.length() <= end ? at : -1;
    }

    boolean hasQuote(String quote) {
        String[] parts = quote.split("\t", 2);
        return placeOf(parts[0], parts[1]) >= 0;
    }

    /** Words that stand in several places mark none of them, unless the quote tells the promise. */
    void markQuote(String quote) {
        String[] parts = quote.split("\t", 2);
        int at = placeOf(parts[0], parts[1]);
        boolean inSeveralPlaces = parts[0].equals("0") && at != words.lastIndexOf(parts[1]);
        if (at >= 0 && !inSeveralPlaces) {
            Arrays.fill(quoted, at, at + parts[1].length(), true);
        }
    }

    /** Adds of each line, but for headings, the words that are not quoted. */
    void addUnquoted(List<String> found) {
        int begin = 0;
        for (String line : words.split("\n", -1)) {
            String left = unquotedOf(line, begin);
            if (!isHeading(line) && left.chars().anyMatch(Character::isLetterOrDigit)) {
                found.add(left);
            }
            begin += line.length() + 1;
        }
    }

    private static boolean isHeading(String line) {
        return line.startsWith("#") || line.equals("Areas, rates") || line.equals("Payments, land");
    }

    private String unquotedOf(String line, int begin) {
        StringBuilder left = new StringBuilder();
        for (int i = 0; i < line.length(); i++) {
            left.append(quoted[begin + i] ? '_' : line.charAt(i));
        }
        return left.toString().replaceAll("_+", " .. ").trim();
    }
}
