/** Each line of each promise that only answers, in the document's order, on a levy at four times of its life. */
final class AnswersTest extends Levies {
    private static final String NO_PHASE = "Throws IndexOutOfBoundsException if there is no such phase";
    private static final String NO_USE = "Throws IndexOutOfBoundsException if there is no such phase or use";
    private static final String NO_DAYS = "Throws IllegalArgumentException if days is out of range";
    private static final String ITS_NUMBER = "phase: its number";
    private static final int[] NO_PHASES = {-1, 2, 3, 5, 6, Integer.MIN_VALUE, Integer.MAX_VALUE};
    private static final int[] NO_USES = {-1, 4, 5, Integer.MIN_VALUE, Integer.MAX_VALUE};
    private static final int TIMES = 4;

    private AnswersTest() {
    }

    public static void main(String[] args) {
        phase();
        use();
        instalment();
        count();
        setting();
        whyNot();
        ifBegun();
        breaksIn();
        surchargesIn();
        mostUrgent();
        dueIn();
        settledShare();
        digest();
        finish("AnswersTest", args);
    }

    /**
     * Two phases. Time 0: phase 0 would owe 2600 less 500. Time 1: it has begun. Time 2: its relief has lapsed, 1100 are
     * paid, land of 30 is taken. Time 3: 121 days later it is broken, and phase 1 has begun.
     */
    private static LevyPhases at(int time) {
        LevyPhases x = new LevyPhases();
        x.addPhase();
        x.addPhase();
        write(x, "a00=20;a01=10;a12=40");
        x.run();
        x.exempt(0, 0, 5);
        if (time >= 1) {
            x.begin(0);
        }
        if (time >= 2) {
            x.lapse(0, 0);
            x.pay(0, 1100);
            x.land(0, 30);
        }
        if (time >= 3) {
            x.pass(99);
            x.pass(22);
            x.begin(1);
        }
        return x;
    }

    /** A question that takes no argument of its own; the answers at the four times. */
    private static void atEachTime(String what, CallOn call, int... want) {
        for (int time = 0; time < TIMES; time++) {
            due(what + " at time " + time, call.answer(at(time)), want[time]);
        }
    }

    private static void eachRefused(String what, String exception, int[] values, CallWith call) {
        for (int value : values) {
            refused(what + " " + value, exception, () -> at(2), x -> call.answer(x, value));
        }
    }

    private static void phase() {
        promise(17, "Returns a property of a phase.");
        property(0, "0: the day on which it began, NONE if it has not", NONE, 0, 0, 0);
        property(1, "1: its charge (by the rates as they are now, if it has not begun)", 2600, 2600, 2600, 2600);
        LevyPhases x = at(1);
        x.rate(0, 1);
        x.rate(2, 1);
        due("not by them, if it has begun", x.phase(0, 1), 2600);
        due("by them, if it has not begun", x.phase(1, 1), 40);
        property(2, "2: its relief that has not lapsed (likewise)", 500, 500, 0, 0);
        LevyPhases y = at(0);
        y.rate(0, 1);
        due("likewise", y.phase(0, 2), 5);
        due("likewise, if it has begun", x.phase(0, 2), 500);
        property(3, "3: what is owed, 0 if it has not begun", 0, 2100, 1470, 1543);
        property(4, "4: what is due now", 0, 0, 500, 1543);
        property(5, "5: paid", 0, 0, 1100, 1100);
        property(6, "6: taken as land", 0, 0, 30, 30);
        property(7, "7: surcharges", 0, 0, 0, 73);
        property(8, "8: lapsed money so far", 0, 0, 500, 500);
        property(9, "9: 1 if it is broken, otherwise 0", 0, 0, 0, 1);
        property(10, "10: instalments, 0 if it has not begun", 0, 2, 2, 2);
        property(11, "11: those that are paid whole", 0, 0, 1, 1);
        property(12, "12: its area, of all uses", 30, 30, 30, 30);
        property(13, "13: room for land, what could still be taken by that percentage, at least 0; "
                + "0 if it has not begun", 0, 1050, 1270, 1270);
        promise(17, ITS_NUMBER);
        due("the area of phase 0", at(3).phase(0, 12), 30);
        due("the area of phase 1", at(3).phase(1, 12), 40);
        due("the day of phase 1", at(3).phase(1, 0), 121);
        promise(17, "Returns the property.");
        due("the charge of phase 1", at(0).phase(1, 1), 1200);
        promise(17, "what: 0:");
        ends("what of phase", 0, 13, RANGE, () -> at(2), (z, what) -> z.phase(0, what));
        promise(17, NO_PHASE);
        eachRefused("phase", INDEX, NO_PHASES, (z, phase) -> z.phase(phase, 0));
    }

    private static void property(int what, String words, int... want) {
        promise(17, words);
        atEachTime(words, x -> x.phase(0, what), want);
    }

    private static void use() {
        promise(18, "Returns a property of a use of a phase.");
        promise(18, "what: 0: its area; 1: its exempt area; 2: its rate (the fixed one, if the phase has begun); "
                + "3: its charge; 4: its relief that has not lapsed");
        int[][] homes = {{20, 20, 20, 20}, {5, 5, 5, 5}, {100, 100, 100, 100}, {2000, 2000, 2000, 2000},
            {500, 500, 0, 0}};
        int[][] shops = {{40, 40, 40, 40}, {0, 0, 0, 0}, {30, 30, 30, 30}, {1200, 1200, 1200, 1200}, {0, 0, 0, 0}};
        for (int i = 0; i < 5; i++) {
            int what = i;
            atEachTime("homes, " + i, x -> x.use(0, 0, what), homes[i]);
            atEachTime("shops, " + i, x -> x.use(1, 2, what), shops[i]);
        }
        LevyPhases y = at(1);
        y.rate(0, 7);
        due("the fixed one", y.use(0, 0, 2), 100);
        due("the one of today", y.use(1, 0, 2), 7);
        promise(18, ITS_NUMBER);
        due("offices of phase 0", y.use(0, 1, 0), 10);
        due("offices of phase 1", y.use(1, 1, 0), 0);
        promise(18, "use: 0 to 3");
        ends("use", 0, 3, INDEX, () -> at(2), (x, use) -> x.use(0, use, 0));
        promise(18, "Returns the property.");
        due("the charge of offices", y.use(0, 1, 3), 600);
        promise(18, NO_USE);
        eachRefused("use of phase", INDEX, NO_PHASES, (x, phase) -> x.use(phase, 0, 0));
        eachRefused("use", INDEX, NO_USES, (x, use) -> x.use(0, use, 0));
    }

    private static void instalment() {
        promise(19, "Returns a property of an instalment.");
        promise(19, "what: 0: its sum; 1: what is open of it; 2: the day through which it is due");
        int[][] first = {{NONE, 1050, 1050, 1050}, {NONE, 1050, 0, 0}, {NONE, 60, 60, 60}};
        int[][] second = {{NONE, 1050, 1050, 1050}, {NONE, 1050, 970, 970}, {NONE, 120, 120, 120}};
        int[][] ofPhase1 = {{NONE, NONE, NONE, 600}, {NONE, NONE, NONE, 600}, {NONE, NONE, NONE, 181}};
        for (int i = 0; i < 3; i++) {
            int what = i;
            atEachTime("the first one, " + i, x -> x.instalment(0, 0, what), first[i]);
            atEachTime("the second one, " + i, x -> x.instalment(0, 1, what), second[i]);
            atEachTime("the third one, " + i, x -> x.instalment(0, 2, what), NONE, NONE, NONE, NONE);
            promise(19, "phase: the number of its phase");
            atEachTime("of phase 1, " + i, x -> x.instalment(1, 0, what), ofPhase1[i]);
        }
        promise(19, "k: its number, 0 to 3");
        ends("k", 0, 3, RANGE, () -> at(2), (x, k) -> x.instalment(0, k, 0));
        promise(19, NO_PHASE);
        eachRefused("instalment of phase", INDEX, NO_PHASES, (x, phase) -> x.instalment(phase, 0, 0));
    }

    private static void count() {
        promise(20, "Returns a number.");
        promise(20, "what: 0: phases; 1: those that have begun; 2: broken ones; 3: number of the day; 4: charges of all "
                + "phases that have begun; 5: relief of them that has not lapsed; 6: paid; 7: taken as land; "
                + "8: surcharges; 9: owed; 10: due now; 11 to 14: the rates of the uses 0 to 3; 15: saved states");
        int[][] want = {{2, 2, 2, 2}, {0, 1, 1, 2}, {0, 0, 0, 1}, {0, 0, 0, 121}, {0, 2600, 2600, 3800},
            {0, 500, 0, 0}, {0, 0, 1100, 1100}, {0, 0, 30, 30}, {0, 0, 0, 73}, {0, 2100, 1470, 2743},
            {0, 0, 500, 1543}, {100, 100, 100, 100}, {60, 60, 60, 60}, {30, 30, 30, 30}, {0, 0, 0, 0}, {4, 5, 6, 6}};
        for (int i = 0; i < want.length; i++) {
            int what = i;
            atEachTime("count(" + i + ")", x -> x.count(what), want[i]);
        }
        promise(20, "Returns the number.");
        LevyPhases x = at(0);
        for (int use = 0; use < 4; use++) {
            x.rate(use, 70 + use);
        }
        for (int use = 0; use < 4; use++) {
            due("the rate of use " + use, x.count(11 + use), 70 + use);
        }
    }

    private static void setting() {
        promise(21, "Returns a setting.");
        promise(21, "setting: 0 to 3");
        ends("setting", 0, 3, INDEX, () -> at(2), LevyPhases::setting);
        promise(21, "Returns its value.");
        int[] first = {60, 5, 700, 50};
        for (int i = 0; i < 4; i++) {
            LevyPhases x = at(2);
            due("setting(" + i + ")", x.setting(i), first[i]);
            x.set(i, 33);
            due("setting(" + i + ") then", x.setting(i), 33);
        }
        promise(21, "Throws IndexOutOfBoundsException if there is no such setting");
        eachRefused("setting", INDEX, NO_USES, LevyPhases::setting);
    }

    private static void whyNot() {
        promise(22, "Tells why something would be refused.");
        promise(22, "what: 0: a change of an area; 1: beginning; 2: a payment; 3: land; 4: a lapse");
        promise(22, "phase: the number of a phase");
        int[][] ofPhase0 = {{0, 1, 1, 1}, {0, 1, 1, 1}, {2, 0, 0, 0}, {2, 0, 0, 0}, {2, 0, 6, 6}};
        int[][] ofPhase1 = {{0, 0, 0, 1}, {0, 0, 0, 1}, {2, 2, 2, 0}, {2, 2, 2, 0}, {2, 2, 2, 6}};
        for (int i = 0; i < 5; i++) {
            int what = i;
            atEachTime("whyNot " + i + " of phase 0", x -> x.whyNot(what, 0, 0), ofPhase0[i]);
            atEachTime("whyNot " + i + " of phase 1", x -> x.whyNot(what, 1, 0), ofPhase1[i]);
        }
        promise(22, "Returns the reason, 0 if it would not be refused.");
        for (int time = 0; time < TIMES; time++) {
            for (int p = 0; p < 2; p++) {
                reasonsHold(time, p);
            }
        }
        promise(22, NO_USE);
        eachRefused("whyNot of phase", INDEX, NO_PHASES, (x, phase) -> x.whyNot(0, phase, 0));
        eachRefused("whyNot of use", INDEX, NO_USES, (x, use) -> x.whyNot(0, 0, use));
        promise(22, "Throws IllegalArgumentException if what is out of range");
        int[] wrong = {-1, 5, Integer.MIN_VALUE, Integer.MAX_VALUE};
        eachRefused("whyNot", RANGE, wrong, (x, what) -> x.whyNot(what, 0, 0));
    }

    /** What has no reason against it is done, and what has one is refused. */
    private static void reasonsHold(int time, int p) {
        CallOn[] calls = {x -> x.area(p, 0, 5), x -> x.begin(p), x -> x.pay(p, 1), x -> x.land(p, 1),
            x -> x.lapse(p, 0)};
        for (int what = 0; what < calls.length; what++) {
            if (at(time).whyNot(what, p, 0) == 0) {
                accepted("what has no reason, " + what, () -> at(time), calls[what]);
            } else {
                refused("what has a reason, " + what, STATE, () -> at(time), calls[what]);
            }
        }
    }

    private static void ifBegun() {
        promise(23, "Tells what a phase would owe, if it began now.");
        promise(23, "what: 0: what begin() would return; 1: the instalments; 2: the sum of the last one");
        int[][] ofPhase0 = {{2100, NONE, NONE, NONE}, {2, NONE, NONE, NONE}, {1050, NONE, NONE, NONE}};
        int[][] ofPhase1 = {{1200, 1200, 1200, NONE}, {2, 2, 2, NONE}, {600, 600, 600, NONE}};
        for (int i = 0; i < 3; i++) {
            int what = i;
            atEachTime("ifBegun(0, " + i + ")", x -> x.ifBegun(0, what), ofPhase0[i]);
            promise(23, ITS_NUMBER);
            atEachTime("ifBegun(1, " + i + ")", x -> x.ifBegun(1, what), ofPhase1[i]);
        }
        LevyPhases x = at(1);
        due("what begin() returns", x.begin(1), 1200);
        due("the instalments then", x.phase(1, 10), 2);
        due("the sum of the last one then", x.instalment(1, 1, 0), 600);
        promise(23, "Returns the number; NONE if there is a reason against it.");
        for (int what = 0; what < 3; what++) {
            due("NONE, " + what, x.ifBegun(1, what), NONE);
            due("NONE without an area, " + what, x.ifBegun(x.addPhase(), what), NONE);
        }
        promise(23, NO_PHASE);
        eachRefused("ifBegun", INDEX, NO_PHASES, (y, phase) -> y.ifBegun(phase, 0));
    }

    private static void breaksIn() {
        promise(24, "Tells when a phase would be broken.");
        atEachTime("breaksIn(0)", x -> x.breaksIn(0), NONE, 61, 121, NONE);
        promise(24, ITS_NUMBER);
        atEachTime("breaksIn(1)", x -> x.breaksIn(1), NONE, NONE, NONE, 61);
        promise(24, NO_PHASE);
        eachRefused("breaksIn", INDEX, NO_PHASES, LevyPhases::breaksIn);
    }

    private static void surchargesIn() {
        promise(25, "Tells how many surcharges there would be.");
        atEachTime("surchargesIn(500)", x -> x.surchargesIn(500), 0, 105, 73, 60);
        atEachTime("surchargesIn(60)", x -> x.surchargesIn(60), 0, 0, 0, 0);
        atEachTime("surchargesIn(61)", x -> x.surchargesIn(61), 0, 105, 0, 60);
        promise(25, "days: 0 to 500");
        ends("surchargesIn", 0, 500, RANGE, () -> at(2), LevyPhases::surchargesIn);
        promise(25, NO_DAYS);
        int[] wrong = {-1, 501, Integer.MIN_VALUE, Integer.MAX_VALUE};
        eachRefused("surchargesIn", RANGE, wrong, LevyPhases::surchargesIn);
    }

    private static void mostUrgent() {
        promise(26, "Finds the phase that should be paid first.");
        atEachTime("mostUrgent()", LevyPhases::mostUrgent, NONE, 0, 0, 1);
    }

    private static void dueIn() {
        promise(27, "Tells what would be due on another day.");
        atEachTime("dueIn(0, 0)", x -> x.dueIn(0, 0), 0, 0, 500, 1543);
        atEachTime("dueIn(0, 60)", x -> x.dueIn(0, 60), 0, 1050, 500, 1543);
        atEachTime("dueIn(0, 61)", x -> x.dueIn(0, 61), 0, 2205, 500, 1543);
        atEachTime("dueIn(0, 120)", x -> x.dueIn(0, 120), 0, 2205, 1470, 1543);
        atEachTime("dueIn(0, 121)", x -> x.dueIn(0, 121), 0, 2205, 1543, 1543);
        promise(27, ITS_NUMBER);
        atEachTime("dueIn(1, 60)", x -> x.dueIn(1, 60), 0, 0, 0, 600);
        atEachTime("dueIn(1, 500)", x -> x.dueIn(1, 500), 0, 0, 0, 1260);
        promise(27, "days: 0 to 500");
        ends("dueIn", 0, 500, RANGE, () -> at(2), (x, days) -> x.dueIn(0, days));
        promise(27, NO_PHASE);
        eachRefused("dueIn", INDEX, NO_PHASES, (x, phase) -> x.dueIn(phase, 0));
        promise(27, NO_DAYS);
        int[] wrong = {-1, 501, Integer.MIN_VALUE, Integer.MAX_VALUE};
        eachRefused("dueIn", RANGE, wrong, (x, days) -> x.dueIn(0, days));
    }

    private static void settledShare() {
        promise(28, "Returns how much of what was charged is settled.");
        double[] want = {1.0, 0.0, 1130.0 / 2600.0, 1130.0 / 3873.0};
        for (int time = 0; time < TIMES; time++) {
            due("the bits of the share at time " + time,
                    Double.doubleToLongBits(at(time).settledShare()), Double.doubleToLongBits(want[time]));
        }
    }

    private static void digest() {
        promise(29, "Computes a hash of the whole state.");
        promise(29, "For each value v of the following list, in order, the hash becomes 31 * hash + v");
        promise(29, "The values are: count(0) to count(15); the settings 0 to 3; for each phase: its properties 0 to 13; "
                + "for each use the properties 0 to 4, and whyNot of a lapse; for each instalment 0 to 3 the properties "
                + "0 to 2; whyNot of 0 to 3 with the use 0; ifBegun with 0 to 2; breaksIn; dueIn with 100 days; then "
                + "surchargesIn with 200 days; mostUrgent; the bits of settledShare (as Double.doubleToLongBits); the "
                + "length of the buffer and each of its character codes.");
        for (int i = 0; i < TIMES; i++) {
            int time = i;
            Hashes.digestDue("the hash at time " + i, "", () -> at(time));
            Hashes.digestDue("the hash with a buffer at time " + i, "p0:1;", () -> having(at(time), "p0:1;"));
        }
        promise(29, "Returns the hash.");
        dueTrue("another state, another hash", at(0).digest() != at(1).digest());
        due("the same state, the same hash", at(3).digest(), at(3).digest());
    }
}
