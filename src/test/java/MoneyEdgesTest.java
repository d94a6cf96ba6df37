/** What is charged, paid, taken as land, lapsed and late, at each edge that the document names. */
final class MoneyEdgesTest extends Levies {
    private MoneyEdgesTest() {
    }

    public static void main(String[] args) {
        ratesAreFixed();
        chargesOfUses();
        numberOfInstalments();
        reliefCountsForTheNumber();
        partsAndRest();
        largestSum();
        daysOfInstalments();
        paidInOrder();
        paidToOneInstalment();
        paidToLapsedMoney();
        atMostWhatIsOwed();
        landPercent();
        landRoomIsRoundedDown();
        landRoomAsItIsNow();
        landAtMostWhatIsOwed();
        lapsedAtOnce();
        dueThroughADay();
        eachInstalmentBreaks();
        oneIsOpen();
        onlyLapsedMoneyNeverBreaks();
        surchargeIsRoundedDown();
        surchargeOfAllThatIsOwed();
        brokenOnceAtMost();
        severalPhasesBreak();
        daysOneByOne();
        lastDayOfAll();
        beginOnTheLastDay();
        finish("MoneyEdgesTest", args);
    }

    private static void properties(String when, LevyPhases x, int... want) {
        for (int what = 0; what < want.length; what++) {
            due(when + ", phase(0, " + what + ")", x.phase(0, what), want[what]);
        }
    }

    private static void open(String when, LevyPhases x, int... want) {
        for (int k = 0; k < 4; k++) {
            due(when + ", open of " + k, x.instalment(0, k, 1), k < want.length ? want[k] : NONE);
        }
    }

    private static void ratesAreFixed() {
        sentence("When it begins, its rates are fixed as they are on that day.");
        LevyPhases x = withPhases(2);
        x.rate(0, 999);
        due("the rate before it begins", x.phase(0, 1), 9990);
        x.rate(0, 7);
        x.begin(0);
        x.rate(0, 8);
        due("fixed", x.use(0, 0, 2), 7);
        due("its charge", x.phase(0, 1), 70);
        due("its sum", x.instalment(0, 0, 0), 70);
        due("the other phase", x.use(1, 0, 2), 8);
        due("the other charge", x.phase(1, 1), 160);
        due("a phase that comes later", x.use(x.addPhase(), 0, 2), 8);
        x.rate(0, 0);
        due("fixed all the same", x.phase(0, 1), 70);
        due("the other charge, with 0", x.phase(1, 1), 0);
    }

    private static void chargesOfUses() {
        sentence("The charge of a use of a phase is its area times its rate; its relief is its exempt area times its rate.");
        LevyPhases x = new LevyPhases();
        x.addPhase();
        int[] rates = {999, 7, 0, 1};
        int[] areas = {999, 3, 999, 2};
        int[] exempts = {998, 3, 999, 1};
        for (int u = 0; u < 4; u++) {
            x.rate(u, rates[u]);
            x.area(0, u, areas[u]);
            x.exempt(0, u, exempts[u]);
            due("charge of use " + u, x.use(0, u, 3), areas[u] * rates[u]);
            due("relief of use " + u, x.use(0, u, 4), exempts[u] * rates[u]);
        }
        sentence("The charge of a phase is the sum over all uses, its relief likewise.");
        due("charge", x.phase(0, 1), 998001 + 21 + 2);
        due("relief", x.phase(0, 2), 997002 + 21 + 1);
        due("area", x.phase(0, 12), 999 + 3 + 999 + 2);
        due("begin()", x.begin(0), 1000);
    }

    private static void numberOfInstalments() {
        sentence("1 if that is below 1000, 2 if it is below 5000, 3 if it is below 20000, otherwise 4");
        int[] sums = {0, 1, 999, 1000, 1001, 4999, 5000, 5001, 19999, 20000, 20001, 99999};
        int[] numbers = {1, 1, 1, 2, 2, 2, 3, 3, 3, 4, 4, 4};
        for (int i = 0; i < sums.length; i++) {
            LevyPhases x = readyFor(sums[i]);
            due("ifBegun sum", x.ifBegun(0, 0), sums[i]);
            due("ifBegun instalments of " + sums[i], x.ifBegun(0, 1), numbers[i]);
            due("instalments before it begins", x.phase(0, 10), 0);
            due("begin()", x.begin(0), sums[i]);
            due("instalments of " + sums[i], x.phase(0, 10), numbers[i]);
            due("paid whole of " + sums[i], x.phase(0, 11), sums[i] == 0 ? 1 : 0);
        }
    }

    private static void reliefCountsForTheNumber() {
        sentence("When it begins, its charge less its relief is due in instalments");
        int[] charges = {1000, 5000, 20000};
        for (int i = 0; i < charges.length; i++) {
            LevyPhases x = readyFor(charges[i] - 1);
            x.rate(2, 1);
            x.area(0, 2, 1);
            due("charge", x.phase(0, 1), charges[i]);
            due("without relief", x.ifBegun(0, 1), i + 2);
            x.exempt(0, 2, 1);
            due("with a relief of 1", x.ifBegun(0, 1), i + 1);
            due("begin()", x.begin(0), charges[i] - 1);
            due("instalments", x.phase(0, 10), i + 1);
            x.lapse(0, 2);
            due("a lapse changes no number", x.phase(0, 10), i + 1);
            due("a lapse is owed", x.phase(0, 3), charges[i]);
        }
    }

    private static void partsAndRest() {
        sentence("each is this sum divided by their number, and the last one has the rest, too");
        int[] sums = {0, 999, 1000, 1001, 4999, 5000, 5001, 5002, 19999, 20000, 20001, 20002, 20003};
        int[] parts = {0, 999, 500, 500, 2499, 1666, 1667, 1667, 6666, 5000, 5000, 5000, 5000};
        int[] lasts = {0, 999, 500, 501, 2500, 1668, 1667, 1668, 6667, 5000, 5001, 5002, 5003};
        for (int i = 0; i < sums.length; i++) {
            LevyPhases x = readyFor(sums[i]);
            due("ifBegun last of " + sums[i], x.ifBegun(0, 2), lasts[i]);
            x.begin(0);
            int number = x.phase(0, 10);
            for (int k = 0; k < 4; k++) {
                int want = k >= number ? NONE : k == number - 1 ? lasts[i] : parts[i];
                due("instalment " + k + " of " + sums[i], x.instalment(0, k, 0), want);
                due("open of instalment " + k + " of " + sums[i], x.instalment(0, k, 1), want);
                due("day of instalment " + k, x.instalment(0, k, 2), k >= number ? NONE : 60 * (k + 1));
            }
        }
    }

    private static void largestSum() {
        sentence("The charge of a phase is the sum over all uses, its relief likewise.");
        LevyPhases x = new LevyPhases();
        x.addPhase();
        for (int u = 0; u < 4; u++) {
            x.rate(u, 999);
            x.area(0, u, 999);
        }
        x.set(1, 50);
        x.set(3, 100);
        due("the largest sum", x.begin(0), 3992004);
        due("a quarter", x.instalment(0, 0, 0), 998001);
        due("all the room", x.phase(0, 13), 3992004);
        due("surchargesIn", x.surchargesIn(61), 1996002);
        due("pass(61)", x.pass(61), 1996002);
        due("owed", x.phase(0, 3), 5988006);
        accounts(x);
    }

    private static void daysOfInstalments() {
        sentence("The instalment k, from 0, is due through the day on which the phase begins plus (k + 1) times setting 0.");
        int[] between = {1, 2, 60, 119, 120};
        int[] days = {0, 1, 99};
        for (int d : days) {
            for (int b : between) {
                LevyPhases x = readyFor(20003);
                x.set(0, b);
                if (d > 0) {
                    x.pass(d);
                }
                x.begin(0);
                sentence("(Days of instalments stay as they were when the phase began.)");
                x.set(0, 121 - b);
                for (int k = 0; k < 4; k++) {
                    due("day of " + k, x.instalment(0, k, 2), d + (k + 1) * b);
                }
                due("breaksIn", x.breaksIn(0), b + 1);
            }
        }
    }

    private static void paidInOrder() {
        sentence("goes to the instalments of the phase in their order, as much as is open of each");
        int[][] left = {{4999, 5000, 5000, 5003}, {1, 5000, 5000, 5003}, {0, 5000, 5000, 5003}, {0, 4999, 5000, 5003},
            {0, 1, 5000, 5003}, {0, 0, 5000, 5003}, {0, 0, 1, 5003}, {0, 0, 0, 5003}, {0, 0, 0, 1}, {0, 0, 0, 0}};
        int[] money = {1, 4999, 5000, 5001, 9999, 10000, 14999, 15000, 20002, 20003};
        int[] whole = {0, 0, 1, 1, 1, 2, 2, 3, 3, 4};
        for (int i = 0; i < money.length; i++) {
            LevyPhases x = owing(20003);
            x.set(3, 100);
            due("pay()", x.pay(0, money[i]), money[i]);
            open("paid " + money[i], x, left[i]);
            due("paid whole", x.phase(0, 11), whole[i]);
            x.undo();
            due("land()", x.land(0, money[i]), money[i]);
            open("land of " + money[i], x, left[i]);
            due("settled whole", x.phase(0, 11), whole[i]);
            due("taken as land", x.phase(0, 6), money[i]);
            for (int k = 0; k < 4; k++) {
                due("its sum stays", x.instalment(0, k, 0), k == 3 ? 5003 : 5000);
            }
        }
    }

    private static void paidToOneInstalment() {
        sentence("goes to the instalments of the phase in their order, as much as is open of each");
        LevyPhases x = owing(999);
        x.pay(0, 400);
        x.land(0, 400);
        open("800 of 999", x, 199);
        due("none is whole", x.phase(0, 11), 0);
        x.pay(0, 199);
        open("all", x, 0);
        due("it is whole", x.phase(0, 11), 1);
        accounts(x);
    }

    private static void paidToLapsedMoney() {
        sentence("then to what lapsed, then to surcharges");
        LevyPhases x = withPhases(1);
        x.exempt(0, 0, 4);
        x.begin(0);
        x.lapse(0, 0);
        properties("lapsed", x, 0, 1000, 0, 1000, 400, 0, 0, 0, 400, 0, 1, 0);
        x.pay(0, 599);
        properties("one is open", x, 0, 1000, 0, 401, 400, 599, 0, 0, 400, 0, 1, 0);
        x.pay(0, 1);
        properties("the instalment is whole", x, 0, 1000, 0, 400, 400, 600, 0, 0, 400, 0, 1, 1);
        x.land(0, 399);
        properties("one of what lapsed", x, 0, 1000, 0, 1, 1, 600, 399, 0, 400, 0, 1, 1);
        x.pay(0, 9);
        properties("all", x, 0, 1000, 0, 0, 0, 601, 399, 0, 400, 0, 1, 1);
        LevyPhases y = begun(10);
        y.pass(61);
        y.pay(0, 999);
        open("broken, one is open", y, 0, 1);
        y.pay(0, 1);
        open("broken, only the surcharge is open", y, 0, 0);
        due("the surcharge is due", y.phase(0, 4), 50);
        due("land goes to the surcharge", y.land(0, 20), 20);
        due("what is left of it", y.phase(0, 3), 30);
        due("the surcharge that there was", y.phase(0, 7), 50);
        accounts(y);
    }

    private static void atMostWhatIsOwed() {
        sentence("Money is paid, at most what is owed.");
        int[] money = {999, 1000, 1001, 99999};
        for (int m : money) {
            LevyPhases x = begun(10);
            due("pay(0, " + m + ")", x.pay(0, m), Math.min(m, 1000));
            due("paid", x.phase(0, 5), Math.min(m, 1000));
            due("owed", x.phase(0, 3), m == 999 ? 1 : 0);
            accounts(x);
        }
    }

    private static void landPercent() {
        sentence("All land of a phase together is at most setting 3 percent of its charge less its relief (as it is now)");
        int[] percents = {0, 1, 50, 99, 100};
        int[] rooms = {0, 10, 500, 990, 1000};
        for (int i = 0; i < percents.length; i++) {
            LevyPhases x = begun(10);
            x.set(3, percents[i]);
            due("room at " + percents[i], x.phase(0, 13), rooms[i]);
            due("reason at " + percents[i], x.whyNot(3, 0, 0), rooms[i] == 0 ? 5 : 0);
            if (rooms[i] > 0) {
                sentence("what land is worth more is not taken");
                due("land of more", x.land(0, rooms[i] + 1), rooms[i]);
                due("no room is left", x.phase(0, 13), 0);
                x.undo();
                due("land of as much", x.land(0, rooms[i]), rooms[i]);
                x.undo();
                due("land of less", x.land(0, rooms[i] - 1), rooms[i] - 1);
                due("room for one is left", x.phase(0, 13), 1);
                due("together", x.land(0, 99999), 1);
            }
            accounts(x);
        }
    }

    private static void landRoomIsRoundedDown() {
        sentence("divisions are rounded down");
        int[] sums = {1, 2, 3, 99, 101, 199, 999};
        for (int sum : sums) {
            for (int percent = 0; percent <= 100; percent += 25) {
                LevyPhases x = owing(sum);
                x.set(3, percent);
                due(percent + " percent of " + sum, x.phase(0, 13), sum * percent / 100);
            }
        }
        LevyPhases y = owing(199);
        y.set(3, 99);
        due("99 percent of 199", y.phase(0, 13), 197);
        due("all of it", y.land(0, 198), 197);
    }

    private static void landRoomAsItIsNow() {
        sentence("room for land, what could still be taken by that percentage, at least 0; 0 if it has not begun");
        LevyPhases x = withPhases(1);
        x.exempt(0, 0, 4);
        due("before it begins", x.phase(0, 13), 0);
        x.begin(0);
        due("50 percent of 600", x.phase(0, 13), 300);
        x.land(0, 300);
        x.set(3, 51);
        due("51 percent", x.phase(0, 13), 6);
        x.set(3, 49);
        due("never below 0", x.phase(0, 13), 0);
        x.lapse(0, 0);
        due("49 percent of 1000", x.phase(0, 13), 190);
        x.pass(61);
        due("surcharges make no room", x.phase(0, 13), 190);
        due("its surcharge", x.phase(0, 7), 35);
        x.pay(0, 1);
        due("money takes no room", x.phase(0, 13), 190);
    }

    private static void landAtMostWhatIsOwed() {
        sentence("Land is given, at most what is owed and what there is room for.");
        LevyPhases x = begun(10);
        x.pay(0, 700);
        due("less is owed than there is room for", x.land(0, 301), 300);
        due("room that is left", x.phase(0, 13), 200);
        x.undo();
        due("as much as is owed", x.land(0, 300), 300);
        x.undo();
        due("less than is owed", x.land(0, 299), 299);
        x.undo();
        x.undo();
        x.pay(0, 300);
        due("more is owed than there is room for", x.land(0, 501), 500);
        accounts(x);
    }

    private static void lapsedAtOnce() {
        sentence("its relief becomes 0, and what it was is owed as lapsed money, at once");
        LevyPhases x = halfExemptBegun(1);
        int[] reliefs = {1000, 600, 300, 50};
        int lapsed = 0;
        for (int u = 0; u < 4; u++) {
            due("relief of use " + u, x.use(0, u, 4), reliefs[u]);
            due("lapse()", x.lapse(0, u), reliefs[u]);
            lapsed += reliefs[u];
            due("no relief", x.use(0, u, 4), 0);
            due("its charge stays", x.use(0, u, 3), 2 * reliefs[u]);
            due("lapsed so far", x.phase(0, 8), lapsed);
            due("due at once", x.phase(0, 4), lapsed);
            due("owed", x.phase(0, 3), 1950 + lapsed);
            due("relief of all", x.phase(0, 2), 1950 - lapsed);
            accounts(x);
        }
        due("the instalments are as before", x.instalment(0, 0, 0) + x.instalment(0, 1, 0), 1950);
    }

    private static void dueThroughADay() {
        sentence("otherwise what is open of instalments that are due through an earlier day or this one, and lapsed money");
        LevyPhases x = owing(20000);
        passDays(x, 59);
        due("a day before", x.phase(0, 4), 0);
        due("count(10) a day before", x.count(10), 0);
        x.pass(1);
        due("on its day", x.phase(0, 4), 5000);
        due("count(10) on its day", x.count(10), 5000);
        x.pay(0, 4999);
        due("what is open of it", x.phase(0, 4), 1);
        x.pay(0, 1);
        due("nothing of it", x.phase(0, 4), 0);
        passDays(x, 59);
        due("a day before the second", x.phase(0, 4), 0);
        x.pass(1);
        due("the second", x.phase(0, 4), 5000);
        due("broken the day after", x.pass(1), 750);
        due("all is due", x.phase(0, 4), 15750);
        due("before it begins", withPhases(1).phase(0, 4), 0);
    }

    private static void eachInstalmentBreaks() {
        sentence("if an instalment is not paid whole, and the number of the day is above the day through which it was due");
        for (int k = 0; k < 4; k++) {
            LevyPhases x = owing(20000);
            if (k > 0) {
                x.pay(0, 5000 * k);
            }
            passDays(x, 60 * (k + 1) - 1);
            due("a day before it is due", x.pass(1), 0);
            due("not broken on its day", x.phase(0, 9), 0);
            due("in a day", x.breaksIn(0), 1);
            due("broken the day after", x.pass(1), (4 - k) * 250);
            due("it is broken", x.phase(0, 9), 1);
            due("count(2)", x.count(2), 1);
            due("owed", x.phase(0, 3), (4 - k) * 5250);
            sentence("and all of it is due at once");
            due("due", x.phase(0, 4), (4 - k) * 5250);
            accounts(x);
        }
    }

    private static void oneIsOpen() {
        sentence("if an instalment is not paid whole, and the number of the day is above the day through which it was due");
        LevyPhases x = begun(10);
        x.pay(0, 499);
        x.pass(60);
        x.pass(1);
        due("one is open: broken", x.phase(0, 9), 1);
        LevyPhases y = begun(10);
        y.pay(0, 500);
        y.pass(61);
        due("none is open: not broken", y.phase(0, 9), 0);
        LevyPhases z = begun(10);
        z.pass(60);
        z.pay(0, 500);
        z.pass(1);
        due("paid on the last day", z.phase(0, 9), 0);
        LevyPhases empty = owing(0);
        due("an instalment of 0 never breaks", empty.breaksIn(0), NONE);
        due("no day breaks it", empty.pass(99), 0);
        due("not broken", empty.phase(0, 9), 0);
    }

    private static void onlyLapsedMoneyNeverBreaks() {
        sentence("if an instalment is not paid whole, and the number of the day is above the day through which it was due");
        LevyPhases x = withPhases(1);
        x.exempt(0, 0, 4);
        x.begin(0);
        x.pay(0, 600);
        x.lapse(0, 0);
        due("never", x.breaksIn(0), NONE);
        due("no surcharges", x.surchargesIn(500), 0);
        passDays(x, 900);
        due("not broken", x.phase(0, 9), 0);
        due("it is due", x.phase(0, 4), 400);
    }

    private static void surchargeIsRoundedDown() {
        sentence("all that is owed of it then, times setting 1, divided by 100, is its surcharge");
        int[] owed = {1, 19, 20, 21, 39, 40, 99, 100, 999};
        int[] five = {0, 0, 1, 1, 1, 2, 4, 5, 49};
        int[] fifty = {0, 9, 10, 10, 19, 20, 49, 50, 499};
        int[] percents = {0, 5, 50};
        for (int i = 0; i < owed.length; i++) {
            int[] want = {0, five[i], fifty[i]};
            for (int j = 0; j < 3; j++) {
                LevyPhases x = owing(owed[i]);
                x.set(1, percents[j]);
                due("surchargesIn", x.surchargesIn(61), want[j]);
                due(percents[j] + " percent of " + owed[i], x.pass(61), want[j]);
                due("its surcharge", x.phase(0, 7), want[j]);
                due("broken all the same", x.phase(0, 9), 1);
                x.set(1, 7);
                due("it stays when the percent changes", x.phase(0, 7), want[j]);
                accounts(x);
            }
        }
    }

    private static void surchargeOfAllThatIsOwed() {
        sentence("all that is owed of it then, times setting 1, divided by 100, is its surcharge");
        LevyPhases x = halfExemptBegun(1);
        x.lapse(0, 0);
        x.pay(0, 100);
        x.land(0, 50);
        due("1950 and 1000 less 150", x.phase(0, 3), 2800);
        due("5 percent of it", x.pass(61), 140);
        due("relief that lapses later has none", x.lapse(0, 1), 600);
        due("its surcharge", x.phase(0, 7), 140);
        due("owed", x.phase(0, 3), 3540);
        due("due", x.phase(0, 4), 3540);
        accounts(x);
    }

    private static void brokenOnceAtMost() {
        sentence("A phase is broken once at most.");
        LevyPhases x = owing(20000);
        due("the first instalment", x.pass(61), 1000);
        due("no second", x.pass(60), 0);
        due("no third", x.pass(60), 0);
        due("no more", x.pass(99), 0);
        due("its surcharges", x.phase(0, 7), 1000);
        due("never again", x.breaksIn(0), NONE);
        due("none would come", x.surchargesIn(500), 0);
    }

    private static void severalPhasesBreak() {
        sentence("Returns the surcharges that come in them.");
        LevyPhases x = withPhases(6);
        for (int p = 0; p < 6; p++) {
            if (p != 4) {
                x.begin(p);
            }
        }
        x.pay(2, 3000);
        due("of all that break", x.pass(61), 50 + 100 + 200 + 300);
        due("broken", x.count(2), 4);
        due("surcharges", x.count(8), 650);
        x.begin(4);
        due("none in 60 days", x.pass(60), 0);
        due("the last one", x.pass(1), 250);
        due("surcharges of all", x.count(8), 900);
        accounts(x);
    }

    private static void daysOneByOne() {
        sentence("When a day passes, its number, at first 0, becomes 1 more.");
        LevyPhases x = owing(20000);
        LevyPhases y = owing(20000);
        int came = 0;
        for (int i = 0; i < 99; i++) {
            came += x.pass(1);
            due("the number of the day", x.count(3), i + 1);
        }
        due("as one pass", y.pass(99), came);
        int[] same = {1, 2, 3, 4, 5, 6, 7, 8, 9, 10};
        for (int what : same) {
            due("as one pass, count(" + what + ")", x.count(what), y.count(what));
        }
    }

    private static void lastDayOfAll() {
        sentence("Throws IllegalStateException if the number of the day would be above 9999");
        LevyPhases x = begun(10);
        passDays(x, 9900);
        refusedOn("99 days from 9901", 9901, 99);
        refusedOn("2 days from 9998", 9998, 2);
        refusedOn("1 day from 9999", 9999, 1);
        due("99 days from 9900", x.pass(99), 0);
        due("the last day", x.count(3), 9999);
        x.undo();
        x.pass(98);
        due("a day from 9998", x.pass(1), 0);
        due("the last day, too", x.count(3), 9999);
        due("other calls go on", x.pay(0, 1) + x.addPhase(), 2);
    }

    private static void refusedOn(String what, int day, int days) {
        refused(what, STATE, () -> {
            LevyPhases x = withPhases(1);
            passDays(x, day - day % 99);
            if (day % 99 > 0) {
                x.pass(day % 99);
            }
            return x;
        }, x -> x.pass(days));
    }

    private static void beginOnTheLastDay() {
        sentence("what would be; nothing is changed, and the limit of days does not matter");
        LevyPhases x = readyFor(20000);
        x.set(0, 120);
        passDays(x, 9999);
        x.begin(0);
        for (int k = 0; k < 4; k++) {
            due("day of " + k, x.instalment(0, k, 2), 9999 + 120 * (k + 1));
        }
        due("breaksIn", x.breaksIn(0), 121);
        due("no surcharge in 120 days", x.surchargesIn(120), 0);
        due("surcharges in 121 days", x.surchargesIn(121), 1000);
        due("due in 119 days", x.dueIn(0, 119), 0);
        due("due in 120 days", x.dueIn(0, 120), 5000);
        due("due in 121 days", x.dueIn(0, 121), 21000);
        due("the most urgent one", x.mostUrgent(), 0);
        x.pay(0, 15000);
        due("breaksIn, the last instalment", x.breaksIn(0), 481);
        due("due in 480 days", x.dueIn(0, 480), 5000);
        due("due in 500 days", x.dueIn(0, 500), 5250);
    }
}
