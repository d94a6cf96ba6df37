import java.io.IOException;
import java.nio.file.Files;
import java.nio.file.Path;
import java.util.ArrayList;
import java.util.List;

/** Tells the words of the document that no test quotes; they are in the file to which the tests add their quotes. */
final class Unquoted {
    private Unquoted() {
    }

    public static void main(String[] args) throws IOException {
        Document document = new Document(args[0]);
        for (String quote : Files.readAllLines(Path.of(args[1]))) {
            document.markQuote(quote);
        }
        List<String> found = new ArrayList<>();
        document.addUnquoted(found);
        for (String words : found) {
            System.out.println("no test quotes: " + words);
        }
        System.out.println("Unquoted: " + found.size() + " lines of the document have words that no test quotes");
        if (!found.isEmpty()) {
            System.exit(1);
        }
    }
}
