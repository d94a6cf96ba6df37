/** Each reason for what is refused, which of several comes first, and which of several exceptions. */
final class ReasonsTest extends Levies {
    private ReasonsTest() {
    }

    public static void main(String[] args) {
        hasBegun();
        hasNotBegun();
        hasNoArea();
        nothingIsOwed();
        noRoomForLand();
        nothingOwedBeforeNoRoom();
        noRelief();
        tooLate();
        indexBeforeRange();
        indexBeforeReason();
        rangeBeforeReason();
        rangeBeforeDays();
        rangeBeforeFullBuffer();
        allThree();
        finish("ReasonsTest", args);
    }

    private static void reasons(LevyPhases x, int... want) {
        for (int what = 0; what < want.length; what++) {
            due("whyNot(" + what + ", 0, 0)", x.whyNot(what, 0, 0), want[what]);
        }
    }

    private static void hasBegun() {
        sentence("1 the phase has begun (changes of areas, beginning)");
        Making begun = () -> halfExemptBegun(2);
        refused("area of a begun phase", STATE, begun, x -> x.area(1, 0, 5));
        refused("the same area", STATE, begun, x -> x.area(1, 0, 20));
        refused("exempt of a begun phase", STATE, begun, x -> x.exempt(1, 0, 5));
        refused("the same exempt area", STATE, begun, x -> x.exempt(1, 0, 10));
        refused("begin of a begun phase", STATE, begun, x -> x.begin(1));
        LevyPhases x = begun.made();
        reasons(x, 1, 1, 0, 0, 0);
        for (int what = 0; what < 3; what++) {
            due("ifBegun of a begun phase", x.ifBegun(0, what), NONE);
        }
        x.pay(0, 99999);
        reasons(x, 1, 1, 4, 4, 0);
        Making broken = () -> {
            LevyPhases y = halfExemptBegun(1);
            y.pass(61);
            return y;
        };
        refused("area of a broken phase", STATE, broken, y -> y.area(0, 0, 5));
        refused("exempt of a broken phase", STATE, broken, y -> y.exempt(0, 0, 5));
        refused("begin of a broken phase", STATE, broken, y -> y.begin(0));
        reasons(broken.made(), 1, 1, 0, 0, 0);
    }

    private static void hasNotBegun() {
        sentence("2 the phase has not begun (payments, land, lapses)");
        Making unbegun = () -> {
            LevyPhases x = halfExempt(2);
            x.begin(0);
            return x;
        };
        refused("pay before it begins", STATE, unbegun, x -> x.pay(1, 1));
        refused("land before it begins", STATE, unbegun, x -> x.land(1, 1));
        refused("lapse before it begins", STATE, unbegun, x -> x.lapse(1, 0));
        LevyPhases x = halfExempt(1);
        reasons(x, 0, 0, 2, 2, 2);
        sentence("Something is refused by the first of these reasons that applies");
        x.set(3, 0);
        x.set(2, 0);
        x.exempt(0, 0, 0);
        reasons(x, 0, 0, 2, 2, 2);
        LevyPhases y = new LevyPhases();
        y.addPhase();
        reasons(y, 0, 3, 2, 2, 2);
    }

    private static void hasNoArea() {
        sentence("3 it has no area (beginning)");
        Making empty = () -> {
            LevyPhases x = halfExempt(1);
            x.addPhase();
            return x;
        };
        refused("begin without an area", STATE, empty, x -> x.begin(1));
        LevyPhases y = empty.made();
        for (int what = 0; what < 3; what++) {
            due("ifBegun without an area", y.ifBegun(1, what), NONE);
        }
        Making emptied = () -> {
            LevyPhases x = withPhases(1);
            x.area(0, 0, 0);
            return x;
        };
        refused("begin of an area that was taken away", STATE, emptied, x -> x.begin(0));
        for (int use = 0; use < 4; use++) {
            LevyPhases x = empty.made();
            due("no area", x.whyNot(1, 1, 0), 3);
            x.area(1, use, 1);
            due("a square metre", x.whyNot(1, 1, 0), 0);
            due("its sum", x.ifBegun(1, 0), new int[] {100, 60, 30, 5}[use]);
            due("begin() of a square metre", x.begin(1), new int[] {100, 60, 30, 5}[use]);
        }
    }

    private static void nothingIsOwed() {
        sentence("4 nothing is owed (payments, land)");
        Making paid = () -> {
            LevyPhases x = halfExemptBegun(1);
            x.pay(0, 99999);
            return x;
        };
        refused("pay where nothing is owed", STATE, paid, x -> x.pay(0, 1));
        refused("land where nothing is owed", STATE, paid, x -> x.land(0, 1));
        reasons(paid.made(), 1, 1, 4, 4, 0);
        Making exempt = () -> {
            LevyPhases x = withPhases(1);
            x.exempt(0, 0, 10);
            x.begin(0);
            return x;
        };
        refused("pay where all is exempt", STATE, exempt, x -> x.pay(0, 1));
        refused("land where all is exempt", STATE, exempt, x -> x.land(0, 1));
        LevyPhases y = begun(10);
        y.pay(0, 999);
        reasons(y, 1, 1, 0, 0, 6);
        due("the last one that is owed", y.pay(0, 5), 1);
        reasons(y, 1, 1, 4, 4, 6);
        y.undo();
        due("the last one as land", y.land(0, 5), 1);
        reasons(y, 1, 1, 4, 4, 6);
        LevyPhases z = paid.made();
        z.lapse(0, 0);
        reasons(z, 1, 1, 0, 0, 6);
        due("what lapsed can be paid", z.pay(0, 99999), 1000);
        LevyPhases late = begun(10);
        late.pass(61);
        late.pay(0, 1000);
        reasons(late, 1, 1, 0, 0, 6);
        due("only the surcharge is owed", late.pay(0, 99999), 50);
        reasons(late, 1, 1, 4, 4, 6);
    }

    private static void noRoomForLand() {
        sentence("5 there is no room for land (land)");
        Making full = () -> {
            LevyPhases x = halfExemptBegun(1);
            x.land(0, 99999);
            return x;
        };
        refused("land without room", STATE, full, x -> x.land(0, 1));
        reasons(full.made(), 1, 1, 0, 5, 0);
        Making noLand = () -> {
            LevyPhases x = halfExemptBegun(1);
            x.set(3, 0);
            return x;
        };
        refused("land at 0 percent", STATE, noLand, x -> x.land(0, 1));
        reasons(noLand.made(), 1, 1, 0, 5, 0);
        LevyPhases y = begun(10);
        y.land(0, 499);
        due("room for one", y.phase(0, 13), 1);
        reasons(y, 1, 1, 0, 0, 6);
        due("the last one", y.land(0, 1), 1);
        reasons(y, 1, 1, 0, 5, 6);
        Making tooSmall = () -> owing(1);
        due("a percentage below 1 of 1 is no room", tooSmall.made().phase(0, 13), 0);
        refused("land for a sum of 1", STATE, tooSmall, x -> x.land(0, 1));
        due("a sum of 2 has room", owing(2).land(0, 99999), 1);
    }

    private static void nothingOwedBeforeNoRoom() {
        sentence("Something is refused by the first of these reasons that applies");
        LevyPhases x = begun(10);
        x.set(3, 0);
        reasons(x, 1, 1, 0, 5, 6);
        x.pay(0, 1000);
        reasons(x, 1, 1, 4, 4, 6);
        LevyPhases y = withPhases(1);
        y.exempt(0, 0, 10);
        y.begin(0);
        due("no room where all is exempt", y.phase(0, 13), 0);
        reasons(y, 1, 1, 4, 4, 0);
    }

    private static void noRelief() {
        sentence("6 there is no relief, or it is too late (lapses)");
        refused("lapse without an exempt area", STATE, () -> begun(10), x -> x.lapse(0, 0));
        refused("lapse of a use without an area", STATE, () -> begun(10), x -> x.lapse(0, 3));
        Making lapsed = () -> {
            LevyPhases x = halfExemptBegun(1);
            x.lapse(0, 2);
            return x;
        };
        refused("lapse of what has lapsed", STATE, lapsed, x -> x.lapse(0, 2));
        accepted("lapse of another use", lapsed, x -> x.lapse(0, 3));
        Making noRate = () -> {
            LevyPhases x = halfExempt(1);
            x.rate(2, 0);
            x.begin(0);
            x.rate(2, 9);
            return x;
        };
        refused("lapse of an exempt area without a rate", STATE, noRate, x -> x.lapse(0, 2));
        due("why", noRate.made().whyNot(4, 0, 2), 6);
        LevyPhases y = new LevyPhases();
        y.addPhase();
        y.rate(3, 1);
        y.area(0, 3, 1);
        y.exempt(0, 3, 1);
        y.begin(0);
        due("a relief of 1", y.lapse(0, 3), 1);
        due("it is none then", y.whyNot(4, 0, 3), 6);
    }

    private static LevyPhases aged(int days, int daysToLapse) {
        LevyPhases x = halfExempt(1);
        x.pass(7);
        x.begin(0);
        x.set(2, daysToLapse);
        passDays(x, days);
        return x;
    }

    private static void tooLate() {
        sentence("can lapse through the day on which it begins plus setting 2 (as it is now)");
        int[] limits = {0, 1, 2, 98, 99, 700, 3000};
        for (int i = 0; i < limits.length; i++) {
            int limit = limits[i];
            accepted("lapse on the last day of " + limit, () -> aged(limit, limit), x -> x.lapse(0, 0));
            refused("lapse a day after " + limit, STATE, () -> aged(limit + 1, limit), x -> x.lapse(0, 0));
            due("no reason on the last day", aged(limit, limit).whyNot(4, 0, 0), 0);
            due("too late the day after", aged(limit + 1, limit).whyNot(4, 0, 0), 6);
        }
        LevyPhases x = aged(3, 2);
        x.set(2, 3);
        due("the setting as it is now, raised", x.whyNot(4, 0, 0), 0);
        x.set(2, 2);
        due("the setting as it is now, lowered", x.whyNot(4, 0, 0), 6);
        accepted("lapse on day 0", () -> halfExemptBegun(1), y -> y.lapse(0, 0));
    }

    private static void indexBeforeRange() {
        sentence("If several exceptions apply, the one that is named first in the throws clause is thrown.");
        Making unbegun = () -> halfExempt(1);
        refused("area, phase and area", INDEX, unbegun, x -> x.area(1, 0, 1000));
        refused("area, use and area", INDEX, unbegun, x -> x.area(0, 4, -1));
        refused("exempt, phase and area", INDEX, unbegun, x -> x.exempt(-1, 0, 1000));
        refused("exempt, use and area", INDEX, unbegun, x -> x.exempt(0, -1, 21));
        refused("rate, use and rate", INDEX, unbegun, x -> x.rate(4, 1000));
        refused("set, setting and value", INDEX, unbegun, x -> x.set(4, -1));
        Making begun = () -> halfExemptBegun(1);
        refused("pay, phase and money", INDEX, begun, x -> x.pay(1, 0));
        refused("land, phase and value", INDEX, begun, x -> x.land(1, 100000));
        refused("phase, phase and what", INDEX, begun, x -> x.phase(1, 14));
        refused("use, phase and what", INDEX, begun, x -> x.use(1, 0, 5));
        refused("use, use and what", INDEX, begun, x -> x.use(0, 4, -1));
        refused("instalment, phase and k", INDEX, begun, x -> x.instalment(1, 4, 0));
        refused("instalment, phase and what", INDEX, begun, x -> x.instalment(-1, 0, 3));
        refused("whyNot, phase and what", INDEX, begun, x -> x.whyNot(5, 1, 0));
        refused("whyNot, use and what", INDEX, begun, x -> x.whyNot(-1, 0, 4));
        refused("ifBegun, phase and what", INDEX, begun, x -> x.ifBegun(1, 3));
        refused("dueIn, phase and days", INDEX, begun, x -> x.dueIn(1, 501));
    }

    private static void indexBeforeReason() {
        sentence("If several exceptions apply, the one that is named first in the throws clause is thrown.");
        refused("area, use and begun", INDEX, () -> halfExemptBegun(1), x -> x.area(0, 4, 1));
        refused("exempt, use and begun", INDEX, () -> halfExemptBegun(1), x -> x.exempt(0, 4, 1));
        refused("lapse, use and not begun", INDEX, () -> halfExempt(1), x -> x.lapse(0, 4));
        refused("lapse, use and too late", INDEX, () -> aged(1, 0), x -> x.lapse(0, -1));
    }

    private static void rangeBeforeReason() {
        sentence("If several exceptions apply, the one that is named first in the throws clause is thrown.");
        refused("area and begun", RANGE, () -> halfExemptBegun(1), x -> x.area(0, 0, 1000));
        refused("exempt and begun", RANGE, () -> halfExemptBegun(1), x -> x.exempt(0, 0, -1));
        refused("exempt above the area and begun", RANGE, () -> halfExemptBegun(1), x -> x.exempt(0, 0, 21));
        refused("money and not begun", RANGE, () -> halfExempt(1), x -> x.pay(0, 0));
        refused("land and not begun", RANGE, () -> halfExempt(1), x -> x.land(0, 100000));
        Making paid = () -> {
            LevyPhases x = begun(10);
            x.pay(0, 1000);
            return x;
        };
        refused("money and nothing owed", RANGE, paid, x -> x.pay(0, 100000));
        refused("land and nothing owed", RANGE, paid, x -> x.land(0, 0));
        Making full = () -> {
            LevyPhases x = begun(10);
            x.land(0, 500);
            return x;
        };
        refused("land and no room", RANGE, full, x -> x.land(0, -1));
    }

    private static LevyPhases lastDay() {
        LevyPhases x = begun(10);
        passDays(x, 9999);
        return x;
    }

    private static void rangeBeforeDays() {
        sentence("Throws IllegalStateException if the number of the day would be above 9999");
        refused("0 days on the last day", RANGE, ReasonsTest::lastDay, x -> x.pass(0));
        refused("100 days on the last day", RANGE, ReasonsTest::lastDay, x -> x.pass(100));
        refused("a day on the last day", STATE, ReasonsTest::lastDay, x -> x.pass(1));
        refused("99 days on the last day", STATE, ReasonsTest::lastDay, x -> x.pass(99));
    }

    private static void rangeBeforeFullBuffer() {
        sentence("Throws IllegalStateException if the buffer has 60 characters");
        Making full = () -> having(withPhases(1), repeated("d1;", 20));
        refused("32 behind 60", RANGE, full, x -> x.append(32));
        refused("127 behind 60", RANGE, full, x -> x.append(127));
        refused("33 behind 60", STATE, full, x -> x.append(33));
        refused("126 behind 60", STATE, full, x -> x.append(126));
    }

    private static void allThree() {
        sentence("If several exceptions apply, the one that is named first in the throws clause is thrown.");
        refused("area, all three", INDEX, () -> halfExemptBegun(1), x -> x.area(0, -1, 1000));
        refused("exempt, all three", INDEX, () -> halfExemptBegun(1), x -> x.exempt(0, 4, 1000));
        refused("pay where nothing is there", INDEX, LevyPhases::new, x -> x.pay(0, 100000));
        refused("land where nothing is there", INDEX, LevyPhases::new, x -> x.land(0, 0));
        refused("area where nothing is there", INDEX, LevyPhases::new, x -> x.area(0, 4, -1));
    }
}
