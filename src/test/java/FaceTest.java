import java.io.IOException;
import java.lang.management.ManagementFactory;
import java.lang.reflect.Constructor;
import java.lang.reflect.Field;
import java.lang.reflect.Method;
import java.lang.reflect.Modifier;
import java.nio.file.Files;
import java.nio.file.Path;
import java.util.Set;
import java.util.TreeSet;
import java.util.regex.Matcher;
import java.util.regex.Pattern;

/** The public face of the class, the words that its language leaves out, and the room that its calls take. */
final class FaceTest extends Checks {
    private static final String I = "IndexOutOfBoundsException";
    private static final String A = "IllegalArgumentException";
    private static final String S = "IllegalStateException";

    private static final String[] FACE = {
        face("int addPhase()", S), face("int area(int,int,int)", I, A, S), face("int exempt(int,int,int)", I, A, S),
        face("int rate(int,int)", I, A), face("int set(int,int)", I, A), face("int begin(int)", I, S),
        face("int pay(int,int)", I, A, S), face("int land(int,int)", I, A, S), face("int lapse(int,int)", I, S),
        face("int pass(int)", A, S), face("int append(int)", A, S), face("int clearBuffer()"),
        face("int firstError()"), face("int run()", A), face("int undo()", S), face("int phase(int,int)", I, A),
        face("int use(int,int,int)", I, A), face("int instalment(int,int,int)", I, A), face("int count(int)", A),
        face("int setting(int)", I), face("int whyNot(int,int,int)", I, A), face("int ifBegun(int,int)", I, A),
        face("int breaksIn(int)", I), face("int surchargesIn(int)", A), face("int mostUrgent()"),
        face("int dueIn(int,int)", I, A), face("double settledShare()"), face("long digest()"),
    };

    private static final String[][] GROUPS = {
        {"phases, areas, rates", "addPhase, area, exempt, rate, set"},
        {"money", "begin, pay, land, lapse, pass"},
        {"texts", "append, clearBuffer, firstError, run, undo"},
        {"what there is", "phase, use, instalment, count, setting"},
        {"what would be; nothing is changed, and the limit of days does not matter",
            "whyNot, ifBegun, breaksIn, surchargesIn, mostUrgent, dueIn, settledShare, digest"},
    };

    private static final String[] LEFT_OUT = {
        "import ", "package ", "->", "::", "System.out", "System.err", "System.nano", "System.current", "System.get",
        "Double.", "Float.", "Exact(", "catch", "finally", "synchronized", "assert ", "instanceof", "Throwable",
        "HashMap", "java.", "hashCode", "toString", "equals", "var ", "static {", "\" +", "+ \"",
    };

    private FaceTest() {
    }

    public static void main(String[] args) throws IOException {
        members();
        if (args.length > 0) {
            String source = Files.readString(Path.of(args[0]));
            words(source);
            groupsOfCalls(source);
        }
        room();
        finish("FaceTest", args);
    }

    private static String face(String head, String... thrown) {
        return head + " throws " + String.join(",", thrown);
    }

    private static void members() {
        Class<?> type = LevyPhases.class;
        dueTrue("public and final",
                Modifier.isPublic(type.getModifiers()) && Modifier.isFinal(type.getModifiers()));
        Set<String> found = new TreeSet<>();
        Set<String> hidden = new TreeSet<>();
        Set<String> open = new TreeSet<>();
        for (Method m : type.getDeclaredMethods()) {
            if (Modifier.isPrivate(m.getModifiers())) {
                hidden.add(m.getName());
            } else if (!m.isSynthetic()) {
                found.add(textOf(m));
                open.add(m.getName());
            }
        }
        tell("the methods", found.toString(), new TreeSet<>(Set.of(FACE)).toString());
        for (Class<?> inner : type.getDeclaredClasses()) {
            dueTrue(inner + " is static", Modifier.isStatic(inner.getModifiers()));
            dueTrue(inner + " is not of the face", (inner.getModifiers() & (Modifier.PUBLIC | Modifier.PROTECTED)) == 0);
            for (Method m : inner.getDeclaredMethods()) {
                hidden.add(m.getName());
            }
        }
        hidden.retainAll(open);
        tell("no other method bears a public name", hidden.toString(), "[]");
        constantsAndConstructors(type);
    }

    private static void constantsAndConstructors(Class<?> type) {
        Set<String> fields = new TreeSet<>();
        for (Field f : type.getDeclaredFields()) {
            if (!Modifier.isPrivate(f.getModifiers()) && !f.isSynthetic()) {
                fields.add(Modifier.toString(f.getModifiers()) + " " + f.getType() + " " + f.getName());
            }
        }
        tell("the constants", fields.toString(), "[public static final int NONE]");
        Constructor<?>[] constructors = type.getDeclaredConstructors();
        due("the constructors", constructors.length, 1);
        tell("the constructor", constructors[0].toString(), "public LevyPhases()");
    }

    private static String textOf(Method m) {
        StringBuilder text = new StringBuilder(m.getReturnType() + " " + m.getName() + "(");
        for (Class<?> parameter : m.getParameterTypes()) {
            text.append(text.charAt(text.length() - 1) == '(' ? "" : ",").append(parameter);
        }
        String[] thrown = new String[m.getExceptionTypes().length];
        for (int i = 0; i < thrown.length; i++) {
            thrown[i] = m.getExceptionTypes()[i].getSimpleName();
        }
        boolean isPublic = Modifier.isPublic(m.getModifiers()) && !Modifier.isStatic(m.getModifiers());
        return (isPublic ? "" : "not public: ") + face(text + ")", thrown);
    }

    private static void words(String source) {
        String code = source.replaceAll("(?s)/\\*.*?\\*/", "").replaceAll("//[^\n]*", "");
        for (String word : LEFT_OUT) {
            due("uses of '" + word + "'", code.split(Pattern.quote(word), -1).length - 1, 0);
        }
        dueTrue("signs 1 to 127 alone", source.chars().allMatch(c -> c >= 1 && c <= 127));
    }

    /** The calls stand in the document's order, and each group of them behind its comment. */
    private static void groupsOfCalls(String source) {
        StringBuilder want = new StringBuilder();
        for (String[] group : GROUPS) {
            sentence("Ahead of the calls " + group[1] + " the interface says: ---- " + group[0] + ".");
            want.append("---- ").append(group[0]).append('\n');
            for (String call : group[1].split(", ")) {
                want.append(call).append('\n');
            }
        }
        StringBuilder found = new StringBuilder();
        Matcher line = Pattern.compile("(?m)^    (?:// (----.*)|public \\w+ (\\w+)\\(.*)$").matcher(source);
        while (line.find()) {
            found.append(line.group(1) == null ? line.group(2) : line.group(1)).append('\n');
        }
        tell("the calls and the comments ahead of them", found.toString(), want.toString());
    }

    /** The rows are made with the object and used again, so that calls make none. */
    private static void room() {
        com.sun.management.ThreadMXBean threads =
                (com.sun.management.ThreadMXBean) ManagementFactory.getThreadMXBean();
        long thread = Thread.currentThread().getId();
        LevyPhases[] objects = new LevyPhases[20];
        for (int i = 0; i < objects.length; i++) {
            objects[i] = new LevyPhases();
        }
        everyCall(new LevyPhases());
        long before = threads.getThreadAllocatedBytes(thread);
        for (LevyPhases x : objects) {
            everyCall(x);
        }
        long bytes = threads.getThreadAllocatedBytes(thread) - before;
        dueTrue("bytes of some 800 calls: " + bytes, bytes < 4096);
    }

    private static void everyCall(LevyPhases x) {
        x.addPhase();
        x.area(0, 0, 20);
        x.exempt(0, 0, 3);
        x.rate(1, 2);
        x.set(3, 40);
        x.begin(0);
        x.pay(0, 3);
        x.land(0, 4);
        x.lapse(0, 0);
        x.pass(70);
        x.append('d');
        x.append('1');
        x.firstError();
        x.run();
        x.append('d');
        x.clearBuffer();
        for (int what = 0; what < 3; what++) {
            x.phase(0, what);
            x.use(0, 0, what);
            x.instalment(0, 0, what);
            x.count(what);
            x.whyNot(what, 0, 0);
            x.ifBegun(0, what);
        }
        x.setting(0);
        x.breaksIn(0);
        x.surchargesIn(500);
        x.mostUrgent();
        x.dueIn(0, 500);
        x.settledShare();
        x.digest();
        x.undo();
    }
}
