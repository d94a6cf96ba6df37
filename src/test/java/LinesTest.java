/** Each line of each promise that changes something, in the document's order. */
final class LinesTest extends Levies {
    private static final String NO_PHASE = "Throws IndexOutOfBoundsException if there is no such phase";
    private static final String NO_USE = "Throws IndexOutOfBoundsException if there is no such phase or use";
    private static final String REASON = "Throws IllegalStateException if there is a reason against it";
    private static final int[] NO_PHASES = {-1, 2, 3, 5, 6, Integer.MIN_VALUE, Integer.MAX_VALUE};
    private static final int[] NO_USES = {-1, 4, 5, Integer.MIN_VALUE, Integer.MAX_VALUE};

    private LinesTest() {
    }

    public static void main(String[] args) {
        addPhase();
        area();
        exempt();
        rate();
        set();
        begin();
        pay();
        land();
        lapse();
        pass();
        append();
        clearBuffer();
        firstError();
        run();
        undo();
        finish("LinesTest", args);
    }

    /** Phase 0 would owe 2600 less 500, phase 1 has no area; four states are saved. */
    private static LevyPhases small() {
        LevyPhases x = new LevyPhases();
        x.addPhase();
        x.addPhase();
        write(x, "a00=20;a01=10");
        x.run();
        x.exempt(0, 0, 5);
        return x;
    }

    /** The same, and phase 0 has begun; five states are saved. */
    private static LevyPhases smallBegun() {
        LevyPhases x = small();
        x.begin(0);
        return x;
    }

    /** The call gives the answer and changes something, and a single undo takes it back. */
    private static void undoable(String what, Making making, CallOn call, long want) {
        LevyPhases x = making.made();
        long before = x.digest();
        int saved = x.count(15);
        due(what, call.answer(x), want);
        due(what + " saves a state", x.count(15), saved + 1);
        dueTrue(what + " changes something", x.digest() != before);
        due(what + " is undone", x.undo(), saved);
        due("all is as before " + what, x.digest(), before);
    }

    private static void eachRefused(String what, String exception, Making making, int[] values, CallWith call) {
        for (int value : values) {
            refused(what + " " + value, exception, making, x -> call.answer(x, value));
        }
    }

    private static void addPhase() {
        promise(2, "Adds a phase without areas. Undoable.");
        undoable("addPhase()", LinesTest::smallBegun, LevyPhases::addPhase, 2);
        LevyPhases x = small();
        x.addPhase();
        for (int use = 0; use < 4; use++) {
            due("no area", x.use(2, use, 0), 0);
            due("no exempt area", x.use(2, use, 1), 0);
        }
        promise(2, "Returns its number.");
        for (int p = 3; p < 6; p++) {
            due("addPhase()", x.addPhase(), p);
            due("it is there", x.phase(p, 0), NONE);
        }
    }

    private static void area() {
        promise(3, "Changes an area; the exempt area of it becomes at most that. Undoable.");
        undoable("area()", LinesTest::small, x -> x.area(0, 0, 4), 20);
        LevyPhases x = small();
        x.area(0, 0, 4);
        due("the area", x.use(0, 0, 0), 4);
        due("the exempt area", x.use(0, 0, 1), 4);
        promise(3, "phase: its number");
        x.area(1, 0, 7);
        due("the area of phase 1", x.use(1, 0, 0), 7);
        due("that of phase 0 stays", x.use(0, 0, 0), 4);
        promise(3, "use: 0 to 3");
        for (int use = 0; use < 4; use++) {
            x.area(1, use, 30 + use);
        }
        for (int use = 0; use < 4; use++) {
            due("the area of use " + use, x.use(1, use, 0), 30 + use);
        }
        promise(3, "area: 0 to 999");
        ends("area", 0, 999, RANGE, LinesTest::small, (y, area) -> y.area(1, 3, area));
        promise(3, "Returns the previous area.");
        int[] areas = {5, 999, 0, 17, 17, 3};
        int previous = x.use(1, 2, 0);
        for (int area : areas) {
            due("area()", x.area(1, 2, area), previous);
            previous = area;
        }
        promise(3, NO_USE);
        eachRefused("area of phase", INDEX, LinesTest::small, NO_PHASES, (y, phase) -> y.area(phase, 0, 1));
        eachRefused("area of use", INDEX, LinesTest::small, NO_USES, (y, use) -> y.area(0, use, 1));
        promise(3, "Throws IllegalArgumentException if area is out of range");
        int[] wrong = {-1, 1000, 65536};
        eachRefused("area", RANGE, LinesTest::small, wrong, (y, area) -> y.area(0, 0, area));
        promise(3, REASON);
        refused("area of a begun phase", STATE, LinesTest::smallBegun, y -> y.area(0, 0, 20));
        accepted("area of the other phase", LinesTest::smallBegun, y -> y.area(1, 0, 20));
    }

    private static void exempt() {
        promise(4, "Changes an exempt area. Undoable.");
        undoable("exempt()", LinesTest::small, x -> x.exempt(0, 0, 20), 5);
        LevyPhases x = small();
        x.exempt(0, 0, 20);
        due("the exempt area", x.use(0, 0, 1), 20);
        due("the area stays", x.use(0, 0, 0), 20);
        promise(4, "phase: its number");
        x.area(1, 0, 20);
        x.exempt(1, 0, 3);
        due("the exempt area of phase 1", x.use(1, 0, 1), 3);
        due("that of phase 0 stays", x.use(0, 0, 1), 20);
        promise(4, "use: 0 to 3");
        for (int use = 0; use < 4; use++) {
            x.area(1, use, 20);
            x.exempt(1, use, 10 + use);
        }
        for (int use = 0; use < 4; use++) {
            due("the exempt area of use " + use, x.use(1, use, 1), 10 + use);
        }
        promise(4, "Returns the previous exempt area.");
        int[] areas = {5, 20, 0, 17, 17, 3};
        int previous = 12;
        for (int area : areas) {
            due("exempt()", x.exempt(1, 2, area), previous);
            previous = area;
        }
        promise(4, NO_USE);
        eachRefused("exempt of phase", INDEX, LinesTest::small, NO_PHASES, (y, phase) -> y.exempt(phase, 0, 0));
        eachRefused("exempt of use", INDEX, LinesTest::small, NO_USES, (y, use) -> y.exempt(0, use, 0));
        promise(4, "Throws IllegalArgumentException if area is out of range, or above the area of this use");
        int[] wrong = {-1, 11, 20, 1000};
        eachRefused("exempt", RANGE, LinesTest::small, wrong, (y, area) -> y.exempt(0, 1, area));
        accepted("exempt of as much", LinesTest::small, y -> y.exempt(0, 1, 10));
        promise(4, REASON);
        refused("exempt of a begun phase", STATE, LinesTest::smallBegun, y -> y.exempt(0, 0, 5));
        accepted("exempt of the other phase", LinesTest::smallBegun, y -> y.exempt(1, 0, 0));
    }

    private static void rate() {
        promise(5, "Changes a rate (for phases that have not begun). Undoable.");
        undoable("rate()", LinesTest::smallBegun, x -> x.rate(0, 7), 100);
        LevyPhases x = smallBegun();
        x.rate(0, 7);
        due("the rate", x.count(11), 7);
        due("for a phase that has not begun", x.use(1, 0, 2), 7);
        due("not for one that has", x.use(0, 0, 2), 100);
        promise(5, "use: 0 to 3");
        for (int use = 0; use < 4; use++) {
            x.rate(use, 40 + use);
        }
        for (int use = 0; use < 4; use++) {
            due("the rate of use " + use, x.count(11 + use), 40 + use);
        }
        promise(5, "rate: 0 to 999");
        ends("rate", 0, 999, RANGE, LinesTest::smallBegun, (y, rate) -> y.rate(3, rate));
        promise(5, "Returns the previous rate.");
        int[] rates = {999, 0, 8, 8, 1};
        int previous = 42;
        for (int rate : rates) {
            due("rate()", x.rate(2, rate), previous);
            previous = rate;
        }
        promise(5, "Throws IndexOutOfBoundsException if there is no such use");
        eachRefused("rate of use", INDEX, LinesTest::small, NO_USES, (y, use) -> y.rate(use, 1));
        promise(5, "Throws IllegalArgumentException if rate is out of range");
        int[] wrong = {-1, 1000, 65536};
        eachRefused("rate", RANGE, LinesTest::small, wrong, (y, rate) -> y.rate(0, rate));
    }

    private static void set() {
        promise(6, "Changes a setting. Undoable.");
        int[] first = {60, 5, 700, 50};
        for (int i = 0; i < 4; i++) {
            int setting = i;
            undoable("set(" + i + ", 9)", LinesTest::smallBegun, x -> x.set(setting, 9), first[i]);
        }
        promise(6, "setting: 0 to 3");
        ends("set", 0, 3, INDEX, LinesTest::small, (x, setting) -> x.set(setting, 9));
        promise(6, "value: the new value");
        LevyPhases y = small();
        for (int i = 0; i < 4; i++) {
            y.set(i, 20 + i);
        }
        for (int i = 0; i < 4; i++) {
            due("setting(" + i + ")", y.setting(i), 20 + i);
        }
        promise(6, "Returns the previous value.");
        for (int i = 0; i < 4; i++) {
            due("set()", y.set(i, 30 + i), 20 + i);
            due("set() again", y.set(i, 40), 30 + i);
        }
        promise(6, "Throws IndexOutOfBoundsException if there is no such setting");
        eachRefused("set", INDEX, LinesTest::small, NO_USES, (x, setting) -> x.set(setting, 9));
        promise(6, "Throws IllegalArgumentException if value is out of range");
        int[] most = {120, 50, 3000, 100};
        for (int i = 0; i < 4; i++) {
            int setting = i;
            int[] wrong = {-1, most[i] + 1, Integer.MIN_VALUE, Integer.MAX_VALUE};
            eachRefused("set " + i, RANGE, LinesTest::small, wrong, (x, value) -> x.set(setting, value));
        }
        refused("0 days between instalments", RANGE, LinesTest::small, x -> x.set(0, 0));
    }

    private static void begin() {
        promise(7, "A phase begins. Undoable.");
        undoable("begin()", LinesTest::small, x -> x.begin(0), 2100);
        due("its day", smallBegun().phase(0, 0), 0);
        due("one has begun", smallBegun().count(1), 1);
        promise(7, "phase: its number");
        LevyPhases x = halfExempt(3);
        x.begin(1);
        due("phase 1", x.phase(1, 0), 0);
        due("not phase 0", x.phase(0, 0), NONE);
        due("not phase 2", x.phase(2, 0), NONE);
        promise(7, "Returns what is owed of it.");
        due("begin(0)", x.begin(0), 1950);
        due("what is owed", x.phase(0, 3), 1950);
        x.rate(0, 999);
        due("begin(2)", x.begin(2), 10940);
        due("what is owed of it", x.phase(2, 3), 10940);
        promise(7, NO_PHASE);
        eachRefused("begin", INDEX, LinesTest::small, NO_PHASES, LevyPhases::begin);
        promise(7, REASON);
        refused("begin without an area", STATE, LinesTest::small, y -> y.begin(1));
        refused("begin again", STATE, LinesTest::smallBegun, y -> y.begin(0));
    }

    private static void pay() {
        promise(8, "Money is paid, at most what is owed. Undoable.");
        undoable("pay()", LinesTest::smallBegun, x -> x.pay(0, 300), 300);
        undoable("pay() of all", LinesTest::smallBegun, x -> x.pay(0, 2100), 2100);
        undoable("pay() of more", LinesTest::smallBegun, x -> x.pay(0, 2101), 2100);
        promise(8, "phase: its number");
        LevyPhases x = halfExemptBegun(3);
        x.pay(1, 40);
        due("paid of phase 1", x.phase(1, 5), 40);
        due("paid of phase 0", x.phase(0, 5), 0);
        due("paid of phase 2", x.phase(2, 5), 0);
        promise(8, "Returns what of it is taken.");
        due("less than is owed", x.pay(1, 1900), 1900);
        due("more than is owed", x.pay(1, 99999), 10);
        promise(8, NO_PHASE);
        eachRefused("pay", INDEX, LinesTest::smallBegun, NO_PHASES, (y, phase) -> y.pay(phase, 1));
        promise(8, "Throws IllegalArgumentException if money is out of range");
        int[] wrong = {0, -1, 100000, Integer.MIN_VALUE, Integer.MAX_VALUE};
        eachRefused("pay", RANGE, LinesTest::smallBegun, wrong, (y, money) -> y.pay(0, money));
        promise(8, REASON);
        refused("pay before it begins", STATE, LinesTest::smallBegun, y -> y.pay(1, 1));
        refused("pay where nothing is owed", STATE, LinesTest::smallPaid, y -> y.pay(0, 1));
    }

    private static LevyPhases smallPaid() {
        LevyPhases x = smallBegun();
        x.pay(0, 99999);
        return x;
    }

    private static void land() {
        promise(9, "Land is given, at most what is owed and what there is room for. Undoable.");
        undoable("land()", LinesTest::smallBegun, x -> x.land(0, 300), 300);
        undoable("land() of all the room", LinesTest::smallBegun, x -> x.land(0, 1050), 1050);
        undoable("land() of more", LinesTest::smallBegun, x -> x.land(0, 1051), 1050);
        promise(9, "phase: its number");
        LevyPhases x = halfExemptBegun(3);
        x.land(1, 40);
        due("land of phase 1", x.phase(1, 6), 40);
        due("land of phase 0", x.phase(0, 6), 0);
        due("land of phase 2", x.phase(2, 6), 0);
        promise(9, "value: 1 to 99999");
        ends("land", 1, 99999, RANGE, LinesTest::smallBegun, (y, value) -> y.land(0, value));
        promise(9, "Returns what of its value is taken.");
        due("less than the room", x.land(1, 900), 900);
        due("more than the room", x.land(1, 99999), 35);
        x.pay(0, 1900);
        due("more than is owed", x.land(0, 99999), 50);
        promise(9, NO_PHASE);
        eachRefused("land", INDEX, LinesTest::smallBegun, NO_PHASES, (y, phase) -> y.land(phase, 1));
        promise(9, "Throws IllegalArgumentException if value is out of range");
        int[] wrong = {0, -1, 100000, Integer.MIN_VALUE, Integer.MAX_VALUE};
        eachRefused("land", RANGE, LinesTest::smallBegun, wrong, (y, value) -> y.land(0, value));
        promise(9, REASON);
        refused("land before it begins", STATE, LinesTest::smallBegun, y -> y.land(1, 1));
        refused("land where nothing is owed", STATE, LinesTest::smallPaid, y -> y.land(0, 1));
    }

    private static void lapse() {
        promise(10, "The exemption of a use lapses. Undoable.");
        undoable("lapse()", LinesTest::smallBegun, x -> x.lapse(0, 0), 500);
        LevyPhases x = halfExemptBegun(3);
        promise(10, "phase: its number");
        x.lapse(1, 0);
        due("relief of phase 1", x.phase(1, 2), 950);
        due("relief of phase 0", x.phase(0, 2), 1950);
        due("relief of phase 2", x.phase(2, 2), 1950);
        promise(10, "use: 0 to 3");
        x.lapse(1, 2);
        int[] left = {0, 600, 0, 50};
        for (int use = 0; use < 4; use++) {
            due("relief of use " + use, x.use(1, use, 4), left[use]);
        }
        promise(10, "Returns the relief that it was.");
        due("lapse(1, 1)", x.lapse(1, 1), 600);
        due("lapse(1, 3)", x.lapse(1, 3), 50);
        due("lapse(0, 2)", x.lapse(0, 2), 300);
        promise(10, NO_USE);
        eachRefused("lapse of phase", INDEX, LinesTest::smallBegun, NO_PHASES, (y, phase) -> y.lapse(phase, 0));
        eachRefused("lapse of use", INDEX, LinesTest::smallBegun, NO_USES, (y, use) -> y.lapse(0, use));
        promise(10, REASON);
        refused("lapse before it begins", STATE, LinesTest::small, y -> y.lapse(0, 0));
        refused("lapse without relief", STATE, LinesTest::smallBegun, y -> y.lapse(0, 1));
    }

    private static void pass() {
        promise(11, "Lets days pass. Undoable, as one call.");
        for (int i = 1; i <= 99; i += 7) {
            int days = i;
            undoable("pass(" + i + ")", LinesTest::smallBegun, x -> x.pass(days), i > 60 ? 105 : 0);
            LevyPhases y = smallBegun();
            y.pass(days);
            due("the number of the day", y.count(3), days);
        }
        promise(11, "Throws IllegalArgumentException if days is out of range");
        int[] wrong = {0, -1, 100, Integer.MIN_VALUE, Integer.MAX_VALUE};
        eachRefused("pass", RANGE, LinesTest::smallBegun, wrong, LevyPhases::pass);
    }

    private static void append() {
        promise(12, "Appends a character to the buffer.");
        Hashes.digestDue("characters", "b0;", () -> having(new LevyPhases(), "b0;"));
        LevyPhases x = having(small(), "b");
        x.append('0');
        due("it is behind the others", x.run() + x.count(1), 2);
        promise(12, "code: the character code, 33 to 126");
        for (int code = 33; code <= 126; code++) {
            String text = String.valueOf((char) code);
            Hashes.digestDue("the code " + code, text, () -> having(new LevyPhases(), text));
        }
        ends("append", 33, 126, RANGE, LinesTest::small, LevyPhases::append);
    }

    private static void clearBuffer() {
        promise(13, "Clears the buffer.");
        LevyPhases x = having(small(), "b0;d5");
        due("clearBuffer()", x.clearBuffer(), 5);
        due("it is clear", x.digest(), small().digest());
        due("clearBuffer() again", x.clearBuffer(), 0);
    }

    private static void firstError() {
        promise(14, "Finds the first syntax error of the buffer.");
        String[] texts = {"", "b0;d5", "b0;d5x", "b0;d0", "b0d5", "xb0", "b0;d5;;", "a00=1x;x"};
        int[] errors = {0, 5, 5, 4, 2, 0, 6, 5};
        for (int i = 0; i < texts.length; i++) {
            LevyPhases x = having(small(), texts[i]);
            long before = x.digest();
            due("firstError() of " + texts[i], x.firstError(), errors[i]);
            due("nothing is changed", x.digest(), before);
        }
    }

    private static void run() {
        promise(15, "Carries out the orders in the buffer as area(), begin(), pay() and pass() do, one after the other, "
                + "up to the first one whose method would throw an exception, and clears the buffer.");
        LevyPhases x = having(small(), "a00=7;a02=9;b0;p0:1;d2");
        LevyPhases y = small();
        due("run()", x.run(), 5);
        y.area(0, 0, 7);
        y.area(0, 2, 9);
        y.begin(0);
        y.pay(0, 1);
        y.pass(2);
        due("as one call", x.count(15), 5);
        x.rate(3, 0);
        y.rate(3, 0);
        due("as the methods do", x.digest(), y.digest());
        promise(15, "Returns how many are carried out.");
        String[] texts = {"b1", "d1;b1", "d1;d1;b1;d1", "b0;p0:99999;p0:1", "b0;a00=1;d1", "d1;b5"};
        int[] done = {0, 1, 2, 2, 1, 1};
        for (int i = 0; i < texts.length; i++) {
            LevyPhases z = having(small(), texts[i]);
            due("run() of " + texts[i], z.run(), done[i]);
            due("the buffer is cleared", z.clearBuffer(), 0);
            due("the days", z.count(3), texts[i].startsWith("d1;d1") ? 2 : texts[i].startsWith("d1") ? 1 : 0);
        }
    }

    private static void undo() {
        promise(16, "Restores the latest saved state, and drops it.");
        LevyPhases x = new LevyPhases();
        long[] before = new long[7];
        for (int i = 0; i < 6; i++) {
            before[i] = x.digest();
            x.addPhase();
        }
        for (int i = 5; i >= 0; i--) {
            due("undo()", x.undo(), i);
            due("the state before", x.digest(), before[i]);
        }
        refused("undo of a new object", STATE, LevyPhases::new, LevyPhases::undo);
    }
}
