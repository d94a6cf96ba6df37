import java.util.List;

/** What can be asked, and what would be, at each edge that the document names. */
final class AskingEdgesTest extends Levies {
    private AskingEdgesTest() {
    }

    public static void main(String[] args) {
        nothingIsThere();
        unbegunPhase();
        usesOfEachPhase();
        begunPhase();
        settledPhase();
        countsOfBegunPhasesOnly();
        countsOfSixPhases();
        noSuchInstalment();
        instalmentsOfEachPhase();
        breaksInDays();
        neverBroken();
        surchargesInDays();
        surchargesOfThoseThatBreak();
        firstToBreak();
        owesMost();
        lowestNumber();
        dueInDays();
        dueInOfAnother();
        whatWouldBeIsWhatComes();
        shareOfNothing();
        shares();
        digestOfANewObject();
        digestOverflows();
        digestOfTheBuffer();
        digestOfNone();
        digestOfShares();
        digestOfSixPhases();
        finish("AskingEdgesTest", args);
    }

    private static void numbers(LevyPhases x, int... want) {
        for (int what = 0; what < want.length; what++) {
            due("count(" + what + ")", x.count(what), want[what]);
        }
    }

    private static void properties(LevyPhases x, int phase, int... want) {
        for (int what = 0; what < want.length; what++) {
            due("phase(" + phase + ", " + what + ")", x.phase(phase, what), want[what]);
        }
    }

    private static void nothingIsThere() {
        sentence("Creates a levy without phases, on the day 0, with an empty buffer.");
        LevyPhases x = new LevyPhases();
        numbers(x, 0, 0, 0, 0, 0, 0, 0, 0, 0, 0, 0, 100, 60, 30, 0, 0);
        due("firstError", x.firstError(), 0);
        sentence("NONE if there is none");
        due("mostUrgent", x.mostUrgent(), NONE);
        due("surchargesIn(0)", x.surchargesIn(0), 0);
        due("surchargesIn(500)", x.surchargesIn(500), 0);
        sentence("The constants: NONE = -1: There is nothing to return.");
        due("NONE", LevyPhases.NONE, -1);
    }

    private static void unbegunPhase() {
        sentence("(by the rates as they are now, if it has not begun)");
        LevyPhases x = halfExempt(2);
        properties(x, 1, NONE, 3900, 1950, 0, 0, 0, 0, 0, 0, 0, 0, 0, 80, 0);
        x.rate(0, 999);
        properties(x, 1, NONE, 19980 + 1900, 9990 + 950, 0, 0, 0, 0, 0, 0, 0, 0, 0, 80, 0);
        due("ifBegun", x.ifBegun(1, 0), 10940);
        for (int u = 0; u < 4; u++) {
            x.rate(u, 0);
        }
        properties(x, 1, NONE, 0, 0, 0, 0, 0, 0, 0, 0, 0, 0, 0, 80, 0);
        due("ifBegun without a charge", x.ifBegun(1, 0), 0);
        due("ifBegun without a charge, instalments", x.ifBegun(1, 1), 1);
        due("ifBegun without a charge, the last", x.ifBegun(1, 2), 0);
        LevyPhases y = new LevyPhases();
        y.addPhase();
        sentence("Adds a phase without areas.");
        properties(y, 0, NONE, 0, 0, 0, 0, 0, 0, 0, 0, 0, 0, 0, 0);
    }

    private static void usesOfEachPhase() {
        sentence("0: its area; 1: its exempt area; 2: its rate (the fixed one, if the phase has begun); 3: its charge; "
                + "4: its relief that has not lapsed");
        LevyPhases x = new LevyPhases();
        for (int p = 0; p < 6; p++) {
            x.addPhase();
            x.area(p, p % 4, 100 + p);
            x.exempt(p, p % 4, 10 + p);
            x.rate(p % 4, 2 + p);
            x.begin(p);
        }
        x.lapse(3, 3);
        x.rate(0, 999);
        for (int p = 0; p < 6; p++) {
            int rate = 2 + p;
            int[] want = {100 + p, 10 + p, rate, (100 + p) * rate, p == 3 ? 0 : (10 + p) * rate};
            for (int what = 0; what < 5; what++) {
                due("use(" + p + ", " + p % 4 + ", " + what + ")", x.use(p, p % 4, what), want[what]);
                due("a use without an area", what == 2 ? 0 : x.use(p, (p + 1) % 4, what), 0);
            }
        }
    }

    private static void begunPhase() {
        sentence("0: the day on which it began, NONE if it has not");
        LevyPhases x = halfExempt(1);
        x.begin(0);
        properties(x, 0, 0, 3900, 1950, 1950, 0, 0, 0, 0, 0, 0, 2, 0, 80, 975);
        LevyPhases y = halfExempt(1);
        y.pass(1);
        y.begin(0);
        y.rate(0, 1);
        properties(y, 0, 1, 3900, 1950, 1950, 0, 0, 0, 0, 0, 0, 2, 0, 80, 975);
    }

    private static void settledPhase() {
        sentence("11: those that are paid whole");
        LevyPhases x = owing(20003);
        int[] money = {4999, 1, 4999, 1, 5000, 5002, 1};
        int[] whole = {0, 1, 1, 2, 3, 3, 4};
        int paid = 0;
        for (int i = 0; i < money.length; i++) {
            x.pay(0, money[i]);
            paid += money[i];
            due("paid", x.phase(0, 5), paid);
            due("paid whole", x.phase(0, 11), whole[i]);
            due("owed", x.phase(0, 3), 20003 - paid);
            due("instalments", x.phase(0, 10), 4);
        }
        due("nothing is owed", x.count(9), 0);
    }

    private static void countsOfBegunPhasesOnly() {
        sentence("4: charges of all phases that have begun; 5: relief of them that has not lapsed");
        LevyPhases x = halfExempt(3);
        numbers(x, 3, 0, 0, 0, 0, 0, 0, 0, 0, 0, 0, 100, 60, 30, 5, 6);
        x.begin(1);
        numbers(x, 3, 1, 0, 0, 3900, 1950, 0, 0, 0, 1950, 0, 100, 60, 30, 5, 6);
        x.lapse(1, 0);
        numbers(x, 3, 1, 0, 0, 3900, 950, 0, 0, 0, 2950, 1000, 100, 60, 30, 5, 6);
        x.undo();
        x.undo();
        numbers(x, 3, 0, 0, 0, 0, 0, 0, 0, 0, 0, 0, 100, 60, 30, 5, 4);
    }

    private static void countsOfSixPhases() {
        sentence("6: paid; 7: taken as land; 8: surcharges; 9: owed; 10: due now");
        LevyPhases x = withPhases(6);
        for (int p = 0; p < 6; p++) {
            x.begin(p);
            x.pay(p, p + 1);
            x.land(p, 10 * (p + 1));
        }
        numbers(x, 6, 6, 0, 0, 21000, 0, 21, 210, 0, 20769, 0, 100, 60, 30, 0, 6);
        x.pass(60);
        int first = 500 + 1000 + 1500 + 2000 + 1666 + 2000;
        due("due now", x.count(10), first - 21 - 210);
        int surcharges = 49 + 98 + 148 + 197 + 247 + 296;
        due("pass(1)", x.pass(1), surcharges);
        numbers(x, 6, 6, 6, 61, 21000, 0, 21, 210, surcharges, 20769 + surcharges, 20769 + surcharges);
    }

    private static void noSuchInstalment() {
        sentence("Returns the property; NONE if the phase has not so many.");
        int[] sums = {0, 999, 1000, 5000, 20000};
        int[] numbers = {1, 1, 2, 3, 4};
        for (int i = 0; i < sums.length; i++) {
            LevyPhases x = readyFor(sums[i]);
            for (int k = 0; k < 4; k++) {
                for (int what = 0; what < 3; what++) {
                    due("before it begins", x.instalment(0, k, what), NONE);
                }
            }
            x.begin(0);
            for (int k = 0; k < 4; k++) {
                for (int what = 0; what < 3; what++) {
                    dueTrue("instalment " + k + " of " + sums[i], x.instalment(0, k, what) == NONE == k >= numbers[i]);
                }
            }
        }
    }

    private static void instalmentsOfEachPhase() {
        sentence("0: its sum; 1: what is open of it; 2: the day through which it is due");
        LevyPhases x = withPhases(6);
        for (int p = 0; p < 6; p++) {
            x.set(0, 10 + p);
            x.begin(p);
            x.pay(p, 100 + p);
        }
        int[] firsts = {500, 1000, 1500, 2000, 1666, 2000};
        int[] lasts = {500, 1000, 1500, 2000, 1668, 2000};
        for (int p = 0; p < 6; p++) {
            int last = p < 4 ? 1 : 2;
            due("the first sum of " + p, x.instalment(p, 0, 0), firsts[p]);
            due("what is open of it", x.instalment(p, 0, 1), firsts[p] - 100 - p);
            due("its day", x.instalment(p, 0, 2), 10 + p);
            due("the last sum of " + p, x.instalment(p, last, 0), lasts[p]);
            due("what is open of the last", x.instalment(p, last, 1), lasts[p]);
            due("the last day", x.instalment(p, last, 2), (10 + p) * (last + 1));
            due("none behind it", x.instalment(p, last + 1, 0), NONE);
        }
    }

    private static void breaksInDays() {
        sentence("Returns in how many days it would be broken, if nothing but days came");
        LevyPhases x = owing(20000);
        for (int day = 0; day <= 60; day++) {
            due("on day " + day, x.breaksIn(0), 61 - day);
            x.pass(1);
        }
        due("it is broken", x.breaksIn(0), NONE);
        LevyPhases y = owing(20000);
        for (int k = 0; k < 4; k++) {
            due("instalment " + k, y.breaksIn(0), 60 * (k + 1) + 1);
            y.pay(0, 4999);
            due("instalment " + k + ", one is open", y.breaksIn(0), 60 * (k + 1) + 1);
            y.pay(0, 1);
        }
        due("all are paid", y.breaksIn(0), NONE);
        LevyPhases most = readyFor(20000);
        most.set(0, 120);
        most.begin(0);
        most.pay(0, 15000);
        due("the most days", most.breaksIn(0), 481);
        LevyPhases least = readyFor(1);
        least.set(0, 1);
        least.begin(0);
        due("the least days between", least.breaksIn(0), 2);
        least.pass(1);
        due("the least days", least.breaksIn(0), 1);
    }

    private static void neverBroken() {
        sentence("NONE if it would never be, or is broken, or has not begun");
        due("has not begun", halfExempt(1).breaksIn(0), NONE);
        due("owes nothing", owing(0).breaksIn(0), NONE);
        LevyPhases paid = owing(5000);
        paid.pay(0, 5000);
        due("is paid", paid.breaksIn(0), NONE);
        LevyPhases lapsed = halfExemptBegun(1);
        lapsed.pay(0, 1950);
        lapsed.lapse(0, 0);
        due("owes lapsed money alone", lapsed.breaksIn(0), NONE);
        LevyPhases broken = owing(5000);
        broken.pass(61);
        due("is broken", broken.breaksIn(0), NONE);
        broken.pay(0, 99999);
        due("is broken and paid", broken.breaksIn(0), NONE);
    }

    private static void surchargesInDays() {
        sentence("Returns what surcharges would come in so many days, if nothing else was done.");
        LevyPhases x = withPhases(3);
        x.begin(0);
        x.pass(9);
        x.begin(1);
        int[] days = {0, 1, 51, 52, 53, 60, 61, 62, 499, 500};
        int[] want = {0, 0, 0, 50, 50, 50, 150, 150, 150, 150};
        for (int i = 0; i < days.length; i++) {
            due("surchargesIn(" + days[i] + ")", x.surchargesIn(days[i]), want[i]);
        }
        x.pass(51);
        due("none now", x.surchargesIn(0), 0);
        due("tomorrow", x.surchargesIn(1), 50);
        due("as it comes", x.pass(1), 50);
        due("none a second time", x.surchargesIn(8), 0);
        due("the other", x.surchargesIn(9), 100);
        LevyPhases late = readyFor(20000);
        late.set(0, 120);
        late.begin(0);
        late.pay(0, 15000);
        due("the last one of the most days, before", late.surchargesIn(480), 0);
        due("the last one of the most days", late.surchargesIn(481), 250);
    }

    private static void surchargesOfThoseThatBreak() {
        sentence("Returns what surcharges would come in so many days, if nothing else was done.");
        LevyPhases x = withPhases(6);
        for (int p = 0; p < 6; p++) {
            x.begin(p);
        }
        x.pay(1, 2000);
        x.pay(2, 1500);
        due("in 60 days", x.surchargesIn(60), 0);
        due("in 61 days", x.surchargesIn(61), 50 + 200 + 250 + 300);
        due("in 120 days", x.surchargesIn(120), 800);
        due("in 121 days", x.surchargesIn(121), 875);
        x.set(1, 0);
        due("0 percent", x.surchargesIn(500), 0);
        x.set(1, 50);
        due("50 percent", x.surchargesIn(500), 8750);
    }

    private static void firstToBreak() {
        sentence("Returns of the phases that would be broken, the one that would be first");
        LevyPhases x = withPhases(6);
        due("none has begun", x.mostUrgent(), NONE);
        for (int p = 5; p >= 0; p--) {
            x.begin(p);
            due("the first one that began", x.mostUrgent(), 5);
            x.pass(1);
        }
        for (int p = 5; p > 0; p--) {
            x.pay(p, 99999);
            due("the next one", x.mostUrgent(), p - 1);
        }
        x.pay(0, 999);
        due("one is owed", x.mostUrgent(), 0);
        x.pay(0, 1);
        due("nothing is owed", x.mostUrgent(), NONE);
        LevyPhases y = withPhases(2);
        y.begin(1);
        y.pass(1);
        y.begin(0);
        due("the earlier one owes more", y.mostUrgent(), 1);
        y.pay(1, 1999);
        due("the earlier one breaks later", y.mostUrgent(), 0);
        y.pass(60);
        due("tomorrow", y.mostUrgent(), 0);
        y.pass(1);
        due("broken ones do not count", y.mostUrgent(), 1);
        y.pass(60);
        due("all are broken", y.mostUrgent(), NONE);
    }

    private static void owesMost() {
        sentence("of several the one that owes most, of these the lowest number");
        LevyPhases x = withPhases(6);
        for (int p = 0; p < 6; p++) {
            x.begin(p);
        }
        due("6000", x.mostUrgent(), 5);
        x.pay(5, 999);
        due("5001", x.mostUrgent(), 5);
        x.pay(5, 1);
        due("5000 twice, the lowest number", x.mostUrgent(), 4);
        x.pay(5, 1);
        due("4999", x.mostUrgent(), 4);
        x.pay(4, 1001);
        due("4999 and 3999", x.mostUrgent(), 5);
        x.pay(4, 1000);
        due("still the one that owes most", x.mostUrgent(), 5);
    }

    private static void lowestNumber() {
        sentence("of these the lowest number");
        LevyPhases x = new LevyPhases();
        for (int p = 0; p < 6; p++) {
            x.addPhase();
            x.area(p, 0, 50);
            x.exempt(p, 0, 5);
        }
        for (int p = 5; p >= 0; p--) {
            x.begin(p);
            due("the lowest that has begun", x.mostUrgent(), p);
        }
        x.lapse(3, 0);
        due("lapsed money is owed, too", x.mostUrgent(), 3);
        x.lapse(2, 0);
        due("the lowest of two", x.mostUrgent(), 2);
        x.land(2, 1);
        due("land is not owed", x.mostUrgent(), 3);
    }

    private static void dueInDays() {
        sentence("Returns what is due of it behind so many days, if nothing else was done; 0 if it has not begun.");
        LevyPhases x = halfExempt(1);
        due("not begun, now", x.dueIn(0, 0), 0);
        due("not begun, in 500 days", x.dueIn(0, 500), 0);
        x.begin(0);
        int[] days = {0, 1, 59, 60, 61, 120, 121, 500};
        int[] want = {0, 0, 0, 975, 2047, 2047, 2047, 2047};
        int[] lapsed = {600, 600, 600, 1575, 2677, 2677, 2677, 2677};
        for (int i = 0; i < days.length; i++) {
            due("dueIn " + days[i], x.dueIn(0, days[i]), want[i]);
        }
        x.lapse(0, 1);
        for (int i = 0; i < days.length; i++) {
            due("with lapsed money, dueIn " + days[i], x.dueIn(0, days[i]), lapsed[i]);
        }
        x.pay(0, 975);
        due("the first is paid, on the day of the second", x.dueIn(0, 120), 975 + 600);
        due("a day before", x.dueIn(0, 119), 600);
        due("the day after", x.dueIn(0, 121), 1575 + 78);
    }

    private static void dueInOfAnother() {
        sentence("Returns what is due of it behind so many days, if nothing else was done; 0 if it has not begun.");
        LevyPhases x = withPhases(2);
        x.begin(0);
        x.pass(20);
        x.begin(1);
        due("broken of it alone", x.dueIn(0, 41), 1050);
        due("the other one in 41 days", x.dueIn(1, 41), 0);
        due("the other one in 60 days", x.dueIn(1, 60), 1000);
        due("the other one in 61 days", x.dueIn(1, 61), 2100);
        x.pass(41);
        due("broken now", x.dueIn(0, 0), 1050);
        due("no second surcharge", x.dueIn(0, 500), 1050);
        x.pay(0, 50);
        due("what is left of it", x.dueIn(0, 500), 1000);
    }

    private static void whatWouldBeIsWhatComes() {
        sentence("what would be; nothing is changed, and the limit of days does not matter");
        for (int days = 1; days <= 99; days++) {
            LevyPhases x = halfExempt(3);
            x.set(0, 30);
            x.begin(0);
            x.pass(11);
            x.begin(2);
            x.pay(0, 1000);
            x.lapse(2, 3);
            int surcharges = x.surchargesIn(days);
            int[] dueThen = {x.dueIn(0, days), x.dueIn(1, days), x.dueIn(2, days)};
            int[] breaks = {x.breaksIn(0), x.breaksIn(1), x.breaksIn(2)};
            due("surcharges of " + days, x.pass(days), surcharges);
            for (int p = 0; p < 3; p++) {
                due("due behind " + days, x.phase(p, 4), dueThen[p]);
                due("broken behind " + days, x.phase(p, 9), breaks[p] != NONE && breaks[p] <= days ? 1 : 0);
            }
        }
    }

    private static void share(String what, LevyPhases x, double want) {
        tell("settledShare() of " + what, Double.toString(x.settledShare()), Double.toString(want));
    }

    private static void shareOfNothing() {
        sentence("1.0 if that is 0");
        share("a new object", new LevyPhases(), 1.0);
        share("phases that have not begun", halfExempt(2), 1.0);
        share("a phase that owes nothing", owing(0), 1.0);
        LevyPhases x = owing(1);
        share("a phase that owes 1", x, 0.0);
        dueTrue("it is no negative 0", 1.0 / x.settledShare() > 0.0);
        x.pay(0, 1);
        share("a phase that is paid", x, 1.0);
    }

    private static void shares() {
        sentence("Returns count(6) and count(7), as a double, divided by the sum of count(6), count(7) and count(9)");
        LevyPhases x = owing(3);
        x.set(3, 100);
        x.pay(0, 1);
        share("1 of 3", x, 1.0 / 3.0);
        x.land(0, 1);
        share("2 of 3", x, 2.0 / 3.0);
        x.pass(61);
        share("no surcharge of 1", x, 2.0 / 3.0);
        LevyPhases y = withPhases(2);
        y.begin(0);
        y.begin(1);
        y.pay(0, 1000);
        share("1000 of 3000", y, 1000.0 / 3000.0);
        y.pass(61);
        share("1000 of 3100", y, 1000.0 / 3100.0);
        y.land(1, 999);
        share("1999 of 3100", y, 1999.0 / 3100.0);
    }

    private static final long[] NEW = {0, 0, 0, 0, 0, 0, 0, 0, 0, 0, 0, 100, 60, 30, 0, 0, 60, 5, 700, 50, 0, -1,
        0x3FF0000000000000L};

    private static void digestOfANewObject() {
        sentence("The hash starts at 2591.");
        List<Long> values = Hashes.listOf(NEW);
        values.add(0L);
        due("digest", new LevyPhases().digest(), Hashes.wholeHash(values).longValue());
        due("digest again", new LevyPhases().digest(), new LevyPhases().digest());
    }

    private static void digestOverflows() {
        sentence("the hash becomes 31 * hash + v, in long arithmetic with overflow");
        List<Long> values = Hashes.listOf(NEW);
        values.add(0L);
        dueTrue("the whole number is no long", Hashes.wholeHash(values).bitLength() > 64);
        boolean negative = false;
        boolean positive = false;
        LevyPhases x = new LevyPhases();
        for (int length = 1; length <= 60; length++) {
            x.append('~');
            values.set(NEW.length, (long) length);
            values.add((long) '~');
            due("digest of " + length, x.digest(), Hashes.wholeHash(values).longValue());
            negative |= x.digest() < 0;
            positive |= x.digest() > 0;
        }
        dueTrue("both signs came", negative && positive);
    }

    private static void digestOfTheBuffer() {
        sentence("the length of the buffer and each of its character codes");
        LevyPhases x = having(new LevyPhases(), "!~");
        List<Long> values = Hashes.listOf(NEW);
        values.add(2L);
        values.add(33L);
        values.add(126L);
        due("digest of two", x.digest(), Hashes.wholeHash(values).longValue());
        x.clearBuffer();
        due("digest of a cleared buffer", x.digest(), new LevyPhases().digest());
        write(x, "~!");
        dueTrue("the order matters", x.digest() != having(new LevyPhases(), "!~").digest());
        dueTrue("the length matters", having(new LevyPhases(), "!").digest() != having(new LevyPhases(), "!!").digest());
    }

    private static void digestOfNone() {
        sentence("for each phase: its properties 0 to 13; for each use the properties 0 to 4, and whyNot of a lapse");
        LevyPhases x = new LevyPhases();
        x.addPhase();
        List<Long> values = Hashes.listOf(1, 0, 0, 0, 0, 0, 0, 0, 0, 0, 0, 100, 60, 30, 0, 1, 60, 5, 700, 50);
        values.addAll(Hashes.listOf(-1, 0, 0, 0, 0, 0, 0, 0, 0, 0, 0, 0, 0, 0));
        values.addAll(Hashes.listOf(0, 0, 100, 0, 0, 2, 0, 0, 60, 0, 0, 2, 0, 0, 30, 0, 0, 2, 0, 0, 0, 0, 0, 2));
        values.addAll(Hashes.listOf(-1, -1, -1, -1, -1, -1, -1, -1, -1, -1, -1, -1));
        values.addAll(Hashes.listOf(0, 3, 2, 2, -1, -1, -1, -1, 0));
        values.addAll(Hashes.listOf(0, -1, Double.doubleToLongBits(1.0), 0));
        due("digest of an empty phase", x.digest(), Hashes.wholeHash(values).longValue());
    }

    private static void digestOfShares() {
        sentence("the bits of settledShare (as Double.doubleToLongBits)");
        int[] paid = {1, 2, 3, 255, 256, 257, 499, 500, 501, 998, 999};
        Hashes.digestDue("digest of nothing in 999", "", () -> owing(999));
        for (int p : paid) {
            Making making = () -> {
                LevyPhases x = owing(999);
                x.pay(0, p);
                return x;
            };
            Hashes.digestDue("digest of " + p + " in 999", "", making);
        }
        for (int p = 1; p <= 512; p = 2 * p) {
            int money = p;
            Making making = () -> {
                LevyPhases x = owing(512);
                x.pay(0, money);
                return x;
            };
            Hashes.digestDue("digest of " + p + " in 512", "", making);
        }
    }

    /** Six phases, of which one begins, then another one, and then so many days pass. */
    private static LevyPhases twoOfSix(int days) {
        LevyPhases x = halfExempt(6);
        x.set(0, 100);
        x.begin(5);
        x.pass(1);
        x.begin(3);
        x.lapse(3, 3);
        x.pay(3, 975);
        passDays(x, days);
        return x;
    }

    private static void digestOfSixPhases() {
        sentence("breaksIn; dueIn with 100 days; then surchargesIn with 200 days; mostUrgent");
        int[] days = {0, 1, 98, 99, 100, 101, 199, 200};
        for (int d : days) {
            Hashes.digestDue("digest behind " + d + " days", "", () -> twoOfSix(d));
        }
        Hashes.digestDue("digest with a buffer", "a00=1;", () -> having(twoOfSix(100), "a00=1;"));
        Hashes.digestDue("digest of phases that have not begun", "", () -> halfExempt(6));
        Hashes.digestDue("digest of phases that have begun", "", () -> halfExemptBegun(6));
    }
}
