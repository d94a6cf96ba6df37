import java.io.IOException;
import java.io.UncheckedIOException;
import java.nio.file.Files;
import java.nio.file.Path;
import java.nio.file.StandardOpenOption;
import java.util.LinkedHashSet;
import java.util.Set;

/** Counts what is not as due; every test of the project extends it and ends with {@link #finish}. */
abstract class Checks {
    static final String RANGE = "IllegalArgumentException";
    static final String INDEX = "IndexOutOfBoundsException";
    static final String STATE = "IllegalStateException";

    /** A call whose answer, or exception, is looked at. */
    interface Call {
        long answer();
    }

    /** What is quoted of the document, each time behind the number of its promise, or 0 for any place. */
    private static final Set<String> quoted = new LinkedHashSet<>();
    private static String latestQuote = "";
    private static int looked = 0;
    private static int wrong = 0;

    /** The words of the document that the answers that follow are due by. */
    static void sentence(String words) {
        promise(0, words);
    }

    /** The same, of the section of a promise. */
    static void promise(int number, String words) {
        quoted.add(number + "\t" + words);
        latestQuote = words;
    }

    static void due(String what, long got, long want) {
        tell(what, Long.toString(got), Long.toString(want));
    }

    static void dueTrue(String what, boolean got) {
        tell(what, Boolean.toString(got), "true");
    }

    static void dueThrown(String what, String exception, Call call) {
        tell(what, answerOf(call), exception);
    }

    static void range(String what, Call call) {
        dueThrown(what, RANGE, call);
    }

    static void index(String what, Call call) {
        dueThrown(what, INDEX, call);
    }

    static void state(String what, Call call) {
        dueThrown(what, STATE, call);
    }

    /** The answer as a text, or the simple name of what is thrown. */
    static String answerOf(Call call) {
        try {
            return Long.toString(call.answer());
        } catch (RuntimeException thrown) {
            return thrown.getClass().getSimpleName();
        }
    }

    static void tell(String what, String got, String want) {
        looked++;
        if (!got.equals(want)) {
            wrong++;
            if (wrong <= 50) {
                String by = latestQuote.isEmpty() ? "" : " (\"" + latestQuote + "\")";
                System.out.println(what + " answered " + got + ", due is " + want + by);
            }
        }
    }

    /**
     * The second argument of a test is the document, in which the quoted words have to stand; the third one is a file
     * to which they are added, so that {@link Unquoted} can find what no test quotes.
     */
    static void finish(String test, String... args) {
        if (args.length > 2) {
            lookForQuotes(new Document(args[1]));
            addQuotesTo(args[2]);
        }
        System.out.println(test + ": " + looked + " answers, " + wrong + " not as due");
        if (wrong != 0 || looked == 0) {
            System.exit(1);
        }
    }

    private static void lookForQuotes(Document document) {
        for (String quote : quoted) {
            dueTrue("the document says: " + quote, document.hasQuote(quote));
        }
    }

    private static void addQuotesTo(String file) {
        try {
            Files.write(Path.of(file), quoted, StandardOpenOption.CREATE, StandardOpenOption.APPEND);
        } catch (IOException e) {
            throw new UncheckedIOException(e);
        }
    }
}
