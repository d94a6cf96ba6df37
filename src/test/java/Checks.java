import java.io.IOException;
import java.io.UncheckedIOException;
import java.nio.file.Files;
import java.nio.file.Path;
import java.util.ArrayList;
import java.util.List;

/** Counts what is not as due; every test of the project extends it and ends with {@link #finish}. */
abstract class Checks {
    static final String RANGE = "IllegalArgumentException";
    static final String INDEX = "IndexOutOfBoundsException";
    static final String STATE = "IllegalStateException";

    /** A call whose answer, or exception, is looked at. */
    interface Call {
        long answer();
    }

    private static final List<String> quoted = new ArrayList<>();
    private static int looked = 0;
    private static int wrong = 0;

    /** The words of the document that the answers that follow are due by. */
    static void sentence(String words) {
        quoted.add(words);
    }

    static void due(String what, long got, long want) {
        tell(what, Long.toString(got), Long.toString(want));
    }

    static void dueTrue(String what, boolean got) {
        tell(what, Boolean.toString(got), "true");
    }

    static void dueThrown(String what, String exception, Call call) {
        tell(what, answerOf(call), exception);
    }

    static void range(String what, Call call) {
        dueThrown(what, RANGE, call);
    }

    static void index(String what, Call call) {
        dueThrown(what, INDEX, call);
    }

    static void state(String what, Call call) {
        dueThrown(what, STATE, call);
    }

    /** The answer as a text, or the simple name of what is thrown. */
    static String answerOf(Call call) {
        try {
            return Long.toString(call.answer());
        } catch (RuntimeException thrown) {
            return thrown.getClass().getSimpleName();
        }
    }

    static void tell(String what, String got, String want) {
        looked++;
        if (!got.equals(want)) {
            wrong++;
            if (wrong <= 50) {
                String by = quoted.isEmpty() ? "" : " (\"" + quoted.get(quoted.size() - 1) + "\")";
                System.out.println(what + " answered " + got + ", due is " + want + by);
            }
        }
    }

    /** The second argument of a test is the document, in which the quoted words have to stand. */
    static void finish(String test, String... args) {
        if (args.length > 1) {
            lookForQuotes(args[1]);
        }
        System.out.println(test + ": " + looked + " answers, " + wrong + " not as due");
        if (wrong != 0 || looked == 0) {
            System.exit(1);
        }
    }

    private static void lookForQuotes(String document) {
        try {
            String words = Files.readString(Path.of(document)).replace("`", "");
            for (String quote : quoted) {
                dueTrue("the document says: " + quote, words.contains(quote));
            }
        } catch (IOException e) {
            throw new UncheckedIOException(e);
        }
    }
}
