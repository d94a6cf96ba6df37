/** Each argument of each method at both ends of its range, and beside them, where it is refused. */
final class RangesTest extends Levies {
    private RangesTest() {
    }

    public static void main(String[] args) {
        noPhase();
        onePhase();
        sixPhases();
        phasesAfterUndo();
        sevenPhases();
        usesOfChanges();
        usesOfQuestions();
        settings();
        settingValues();
        areas();
        exemptAreas();
        rates();
        moneyAndLand();
        days();
        codes();
        whatOfPhase();
        whatOfUse();
        instalments();
        whatOfCount();
        whatOfWhyNot();
        whatOfIfBegun();
        finish("RangesTest", args);
    }

    /** Every method that takes a phase, with one that is not there. */
    private static void phaseRefused(Making unbegun, Making begun, int phase) {
        refused("area of phase " + phase, INDEX, unbegun, x -> x.area(phase, 0, 1));
        refused("exempt of phase " + phase, INDEX, unbegun, x -> x.exempt(phase, 0, 0));
        refused("begin of phase " + phase, INDEX, unbegun, x -> x.begin(phase));
        refused("pay of phase " + phase, INDEX, begun, x -> x.pay(phase, 1));
        refused("land of phase " + phase, INDEX, begun, x -> x.land(phase, 1));
        refused("lapse of phase " + phase, INDEX, begun, x -> x.lapse(phase, 0));
        refused("phase of phase " + phase, INDEX, begun, x -> x.phase(phase, 0));
        refused("use of phase " + phase, INDEX, begun, x -> x.use(phase, 0, 0));
        refused("instalment of phase " + phase, INDEX, begun, x -> x.instalment(phase, 0, 0));
        refused("whyNot of phase " + phase, INDEX, begun, x -> x.whyNot(0, phase, 0));
        refused("ifBegun of phase " + phase, INDEX, unbegun, x -> x.ifBegun(phase, 0));
        refused("breaksIn of phase " + phase, INDEX, begun, x -> x.breaksIn(phase));
        refused("dueIn of phase " + phase, INDEX, begun, x -> x.dueIn(phase, 0));
    }

    private static void phaseAccepted(Making unbegun, Making begun, int phase) {
        accepted("area of phase " + phase, unbegun, x -> x.area(phase, 0, 1));
        accepted("exempt of phase " + phase, unbegun, x -> x.exempt(phase, 0, 0));
        accepted("begin of phase " + phase, unbegun, x -> x.begin(phase));
        accepted("pay of phase " + phase, begun, x -> x.pay(phase, 1));
        accepted("land of phase " + phase, begun, x -> x.land(phase, 1));
        accepted("lapse of phase " + phase, begun, x -> x.lapse(phase, 0));
        accepted("phase of phase " + phase, begun, x -> x.phase(phase, 0));
        accepted("use of phase " + phase, begun, x -> x.use(phase, 0, 0));
        accepted("instalment of phase " + phase, begun, x -> x.instalment(phase, 0, 0));
        accepted("whyNot of phase " + phase, begun, x -> x.whyNot(0, phase, 0));
        accepted("ifBegun of phase " + phase, unbegun, x -> x.ifBegun(phase, 0));
        accepted("breaksIn of phase " + phase, begun, x -> x.breaksIn(phase));
        accepted("dueIn of phase " + phase, begun, x -> x.dueIn(phase, 0));
    }

    private static void noPhase() {
        sentence("Throws IndexOutOfBoundsException if there is no such phase");
        int[] phases = {-1, 0, 1, 5, 6, Integer.MIN_VALUE, Integer.MAX_VALUE};
        for (int phase : phases) {
            phaseRefused(LevyPhases::new, LevyPhases::new, phase);
        }
    }

    private static void onePhase() {
        sentence("Throws IndexOutOfBoundsException if there is no such phase");
        phaseAccepted(() -> halfExempt(1), () -> halfExemptBegun(1), 0);
        int[] phases = {-1, 1, 2, 5, 6, 7, Integer.MIN_VALUE, Integer.MAX_VALUE, 65536, -65536};
        for (int phase : phases) {
            phaseRefused(() -> halfExempt(1), () -> halfExemptBegun(1), phase);
        }
    }

    private static void sixPhases() {
        sentence("There are at most 6 phases, numbered from 0 in the order in which they came.");
        for (int phase = 0; phase < 6; phase++) {
            phaseAccepted(() -> halfExempt(6), () -> halfExemptBegun(6), phase);
        }
        int[] phases = {-1, 6, 7, Integer.MIN_VALUE, Integer.MAX_VALUE};
        for (int phase : phases) {
            phaseRefused(() -> halfExempt(6), () -> halfExemptBegun(6), phase);
        }
    }

    private static LevyPhases lastOneUndone() {
        LevyPhases x = halfExemptBegun(3);
        x.addPhase();
        x.area(3, 0, 9);
        x.begin(3);
        for (int i = 0; i < 3; i++) {
            x.undo();
        }
        return x;
    }

    private static void phasesAfterUndo() {
        sentence("Restores the latest saved state, and drops it.");
        phaseRefused(RangesTest::lastOneUndone, RangesTest::lastOneUndone, 3);
        due("the ones before are there", lastOneUndone().phase(2, 0), 0);
    }

    private static void sevenPhases() {
        sentence("Throws IllegalStateException if there are 6");
        for (int phases = 0; phases < 6; phases++) {
            due("the number of the next phase", withPhases(phases).addPhase(), phases);
        }
        refused("a seventh phase", STATE, () -> withPhases(6), LevyPhases::addPhase);
        refused("a seventh phase beside six that have begun", STATE, () -> halfExemptBegun(6), LevyPhases::addPhase);
    }

    private static void usesOfChanges() {
        sentence("There are 4 uses, numbered from 0: homes, offices, shops, sheds");
        ends("area of use", 0, 3, INDEX, () -> halfExempt(1), (x, use) -> x.area(0, use, 1));
        ends("exempt of use", 0, 3, INDEX, () -> halfExempt(1), (x, use) -> x.exempt(0, use, 1));
        ends("rate of use", 0, 3, INDEX, () -> halfExempt(1), (x, use) -> x.rate(use, 1));
        ends("lapse of use", 0, 3, INDEX, () -> halfExemptBegun(1), (x, use) -> x.lapse(0, use));
        for (int use = 0; use < 4; use++) {
            LevyPhases x = halfExemptBegun(1);
            x.lapse(0, use);
            for (int other = 0; other < 4; other++) {
                due("only the use lapses", x.whyNot(4, 0, other), other == use ? 6 : 0);
            }
        }
    }

    private static void usesOfQuestions() {
        sentence("use: 0 to 3 (for a lapse; else it does not matter, but has to be in its range)");
        for (int i = 0; i < 5; i++) {
            int what = i;
            ends("whyNot " + what + " of use", 0, 3, INDEX, () -> halfExempt(1), (x, use) -> x.whyNot(what, 0, use));
            ends("whyNot " + what + " of begun use", 0, 3, INDEX,
                    () -> halfExemptBegun(1), (x, use) -> x.whyNot(what, 0, use));
            ends("property " + what + " of use", 0, 3, INDEX, () -> halfExempt(1), (x, use) -> x.use(0, use, what));
        }
        for (int use = 0; use < 4; use++) {
            LevyPhases x = begun(10);
            int[] reasons = {1, 1, 0, 0};
            for (int what = 0; what < 4; what++) {
                due("the use does not matter", x.whyNot(what, 0, use), reasons[what]);
            }
        }
    }

    private static void settings() {
        sentence("Throws IndexOutOfBoundsException if there is no such setting");
        ends("setting", 0, 3, INDEX, LevyPhases::new, (x, setting) -> x.setting(setting));
        ends("set", 0, 3, INDEX, LevyPhases::new, (x, setting) -> x.set(setting, 1));
    }

    private static void settingValues() {
        int[] first = {60, 5, 700, 50};
        int[] least = {1, 0, 0, 0};
        int[] most = {120, 50, 3000, 100};
        String[] words = {"0: days between instalments, 1 to 120, at first 60",
            "1: the surcharge in percent, 0 to 50, at first 5",
            "2: days within which exemptions can lapse, 0 to 3000, at first 700",
            "3: the most land in percent, 0 to 100, at first 50"};
        for (int i = 0; i < 4; i++) {
            int setting = i;
            sentence(words[setting]);
            ends("setting " + setting, least[setting], most[setting], RANGE,
                    LevyPhases::new, (x, value) -> x.set(setting, value));
            LevyPhases x = new LevyPhases();
            due("at first", x.setting(setting), first[setting]);
            due("set() to the least", x.set(setting, least[setting]), first[setting]);
            due("the least", x.setting(setting), least[setting]);
            due("set() to the most", x.set(setting, most[setting]), least[setting]);
            due("the most", x.setting(setting), most[setting]);
            for (int other = 0; other < 4; other++) {
                due("the other settings stay", x.setting(other), other == setting ? most[setting] : first[other]);
            }
        }
    }

    private static void areas() {
        sentence("Each has, for each use, an area, 0 to 999, at first 0, and an exempt area of it");
        for (int i = 0; i < 4; i++) {
            int use = i;
            ends("area", 0, 999, RANGE, () -> halfExempt(2), (x, area) -> x.area(1, use, area));
            LevyPhases x = withPhases(1);
            x.addPhase();
            due("at first", x.use(1, use, 0), 0);
            due("at first exempt", x.use(1, use, 1), 0);
            due("area() of the most", x.area(1, use, 999), 0);
            due("the most", x.use(1, use, 0), 999);
            due("area() of the least", x.area(1, use, 0), 999);
            due("the least", x.use(1, use, 0), 0);
        }
        sentence("Changes an area; the exempt area of it becomes at most that.");
        int[] areas = {0, 9, 10, 11, 999};
        int[] exempts = {0, 9, 10, 10, 10};
        for (int i = 0; i < areas.length; i++) {
            LevyPhases x = halfExempt(1);
            x.area(0, 2, areas[i]);
            due("exempt of area " + areas[i], x.use(0, 2, 1), exempts[i]);
            due("the other use stays", x.use(0, 1, 1), 10);
        }
        LevyPhases y = halfExempt(2);
        for (int use = 0; use < 4; use++) {
            y.exempt(1, use, 2 * use + 1);
        }
        for (int use = 0; use < 4; use++) {
            y.area(1, use, 4);
            due("at most 4 of use " + use, y.use(1, use, 1), Math.min(2 * use + 1, 4));
            due("the other phase stays", y.use(0, use, 1), 10);
        }
    }

    private static void exemptAreas() {
        sentence("area: 0 to 999, at most the area of this use");
        int[] areas = {0, 1, 20, 998, 999};
        for (int i = 0; i < areas.length; i++) {
            int area = areas[i];
            Making making = () -> {
                LevyPhases x = halfExempt(1);
                x.area(0, 0, 999);
                x.area(0, 1, area);
                return x;
            };
            ends("exempt of " + area, 0, area, RANGE, making, (x, exempt) -> x.exempt(0, 1, exempt));
            LevyPhases x = making.made();
            int before = Math.min(10, area);
            due("exempt() of all", x.exempt(0, 1, area), before);
            due("all is exempt", x.use(0, 1, 1), area);
            due("exempt() of nothing", x.exempt(0, 1, 0), area);
            due("nothing is exempt", x.use(0, 1, 1), 0);
        }
        Making ofTwo = () -> withPhases(2);
        ends("exempt of a smaller phase", 0, 10, RANGE, ofTwo, (x, exempt) -> x.exempt(0, 0, exempt));
        ends("exempt of a larger phase", 0, 20, RANGE, ofTwo, (x, exempt) -> x.exempt(1, 0, exempt));
        Making empty = () -> {
            LevyPhases x = withPhases(1);
            x.addPhase();
            return x;
        };
        ends("exempt of a phase without an area", 0, 0, RANGE, empty, (x, exempt) -> x.exempt(1, 0, exempt));
    }

    private static void rates() {
        sentence("each has a rate for a square metre, 0 to 999, at first 100, 60, 30 and 0");
        int[] first = {100, 60, 30, 0};
        for (int i = 0; i < 4; i++) {
            int use = i;
            ends("rate of use " + use, 0, 999, RANGE, () -> halfExemptBegun(1), (x, rate) -> x.rate(use, rate));
            LevyPhases x = withPhases(1);
            due("at first", x.count(11 + use), first[use]);
            due("at first, of a phase", x.use(0, use, 2), first[use]);
            due("rate() of the most", x.rate(use, 999), first[use]);
            due("the most", x.count(11 + use), 999);
            due("the most, of a phase", x.use(0, use, 2), 999);
            due("rate() of the least", x.rate(use, 0), 999);
            due("the least", x.count(11 + use), 0);
            due("the least, of a phase", x.use(0, use, 2), 0);
        }
    }

    private static void moneyAndLand() {
        sentence("money: 1 to 99999");
        ends("money", 1, 99999, RANGE, () -> halfExemptBegun(1), (x, money) -> x.pay(0, money));
        ends("land", 1, 99999, RANGE, () -> halfExemptBegun(1), (x, value) -> x.land(0, value));
        LevyPhases x = begun(999);
        due("the least money", x.pay(0, 1), 1);
        x.addPhase();
        x.rate(0, 999);
        x.set(3, 100);
        x.area(1, 0, 999);
        x.begin(1);
        due("the most money", x.pay(1, 99999), 99999);
        due("the least land", x.land(1, 1), 1);
        due("the most land", x.land(1, 99999), 99999);
    }

    private static void days() {
        sentence("days: 1 to 99");
        ends("pass", 1, 99, RANGE, () -> halfExemptBegun(1), LevyPhases::pass);
        LevyPhases x = new LevyPhases();
        x.pass(1);
        due("a day", x.count(3), 1);
        x.pass(99);
        due("99 days more", x.count(3), 100);
        sentence("days: 0 to 500");
        ends("surchargesIn", 0, 500, RANGE, () -> halfExemptBegun(1), LevyPhases::surchargesIn);
        ends("dueIn", 0, 500, RANGE, () -> halfExemptBegun(1), (y, days) -> y.dueIn(0, days));
        ends("dueIn of one that has not begun", 0, 500, RANGE, () -> halfExempt(1), (y, days) -> y.dueIn(0, days));
    }

    private static void codes() {
        sentence("Throws IllegalArgumentException if code is not 33 to 126");
        ends("append", 33, 126, RANGE, LevyPhases::new, LevyPhases::append);
        ends("append behind 59", 33, 126, RANGE, () -> having(withPhases(1), repeated("z", 59)), LevyPhases::append);
    }

    private static void whatOfPhase() {
        sentence("Throws IllegalArgumentException if what is not 0 to 13");
        ends("phase", 0, 13, RANGE, () -> halfExempt(1), (x, what) -> x.phase(0, what));
        ends("begun phase", 0, 13, RANGE, () -> halfExemptBegun(1), (x, what) -> x.phase(0, what));
    }

    private static void whatOfUse() {
        sentence("Throws IllegalArgumentException if what is not 0 to 4");
        ends("use", 0, 4, RANGE, () -> halfExempt(1), (x, what) -> x.use(0, 3, what));
        ends("use of a begun phase", 0, 4, RANGE, () -> halfExemptBegun(1), (x, what) -> x.use(0, 3, what));
    }

    private static void instalments() {
        sentence("Throws IllegalArgumentException if k or what is out of range");
        ends("k", 0, 3, RANGE, () -> owing(20000), (x, k) -> x.instalment(0, k, 0));
        ends("k of one instalment", 0, 3, RANGE, () -> owing(1), (x, k) -> x.instalment(0, k, 0));
        ends("k of none", 0, 3, RANGE, () -> readyFor(1), (x, k) -> x.instalment(0, k, 0));
        ends("what of an instalment", 0, 2, RANGE, () -> owing(20000), (x, what) -> x.instalment(0, 3, what));
        ends("what of one that is not there", 0, 2, RANGE, () -> owing(1), (x, what) -> x.instalment(0, 3, what));
        ends("what of none", 0, 2, RANGE, () -> readyFor(1), (x, what) -> x.instalment(0, 0, what));
    }

    private static void whatOfCount() {
        sentence("Throws IllegalArgumentException if what is not 0 to 15");
        ends("count", 0, 15, RANGE, () -> halfExemptBegun(2), LevyPhases::count);
        ends("count of a new object", 0, 15, RANGE, LevyPhases::new, LevyPhases::count);
    }

    private static void whatOfWhyNot() {
        sentence("what: 0: a change of an area; 1: beginning; 2: a payment; 3: land; 4: a lapse");
        ends("whyNot", 0, 4, RANGE, () -> halfExempt(1), (x, what) -> x.whyNot(what, 0, 0));
        ends("whyNot of a begun phase", 0, 4, RANGE, () -> halfExemptBegun(1), (x, what) -> x.whyNot(what, 0, 3));
    }

    private static void whatOfIfBegun() {
        sentence("Throws IllegalArgumentException if what is not 0 to 2");
        ends("ifBegun", 0, 2, RANGE, () -> halfExempt(1), (x, what) -> x.ifBegun(0, what));
        ends("ifBegun of a begun phase", 0, 2, RANGE, () -> halfExemptBegun(1), (x, what) -> x.ifBegun(0, what));
    }
}
