/** Each promise of the document by hand: ordinary inputs, the edges that it names, and wrong inputs. */
final class PromisesTest extends Levies {
    private PromisesTest() {
    }

    public static void main(String[] args) {
        newObject();
        addPhase();
        area();
        exempt();
        rate();
        set();
        begin();
        pay();
        land();
        landRoomNow();
        lapse();
        lapseInTime();
        pass();
        passLimit();
        append();
        clearBuffer();
        firstError();
        run();
        runStops();
        undo();
        phase();
        use();
        instalment();
        count();
        setting();
        whyNot();
        ifBegun();
        breaksIn();
        surchargesIn();
        mostUrgent();
        dueIn();
        settledShare();
        digest();
        finish("PromisesTest", args);
    }

    private static void newObject() {
        LevyPhases x = new LevyPhases();
        due("NONE", LevyPhases.NONE, -1);
        int[] numbers = {0, 0, 0, 0, 0, 0, 0, 0, 0, 0, 0, 100, 60, 30, 0, 0};
        for (int i = 0; i < numbers.length; i++) {
            due("new count(" + i + ")", x.count(i), numbers[i]);
        }
        int[] settings = {60, 5, 700, 50};
        for (int i = 0; i < settings.length; i++) {
            due("new setting(" + i + ")", x.setting(i), settings[i]);
        }
        due("new firstError()", x.firstError(), 0);
        due("new clearBuffer()", x.clearBuffer(), 0);
        index("new phase(0, 0)", () -> x.phase(0, 0));
        x.rate(0, 1);
        due("two objects share nothing", new LevyPhases().count(11), 100);
        x.set(0, 1);
        due("two objects share no setting", new LevyPhases().setting(0), 60);
    }

    private static void addPhase() {
        LevyPhases x = new LevyPhases();
        for (int i = 0; i < 6; i++) {
            due("addPhase()", x.addPhase(), i);
            due("count(0)", x.count(0), i + 1);
            due("area of a new phase", x.phase(i, 12), 0);
            due("a new phase has not begun", x.phase(i, 0), -1);
        }
        long before = x.digest();
        state("the seventh phase", x::addPhase);
        due("nothing is changed by a refused phase", x.digest(), before);
        due("six saved", x.count(15), 6);
        due("undo of addPhase", x.undo(), 5);
        due("five phases again", x.count(0), 5);

        LevyPhases y = withPhases(1);
        y.exempt(0, 0, 4);
        y.begin(0);
        y.lapse(0, 0);
        y.pass(99);
        for (int i = 0; i < 6; i++) {
            y.undo();
        }
        y.rate(0, 7);
        due("a phase after undo has the number again", y.addPhase(), 0);
        for (int what = 1; what <= 13; what++) {
            due("nothing is left of the undone phase, " + what, y.phase(0, what), 0);
        }
        due("nothing is left of the undone phase, 0", y.phase(0, 0), -1);
        due("nothing is left of the undone rate", y.use(0, 0, 2), 7);
        due("nothing is left of the undone exempt area", y.use(0, 0, 1), 0);
    }

    private static void area() {
        LevyPhases x = withPhases(2);
        due("area(0, 1, 20)", x.area(0, 1, 20), 0);
        due("area(0, 1, 999)", x.area(0, 1, 999), 20);
        due("area(0, 1, 30)", x.area(0, 1, 30), 999);
        due("the area", x.use(0, 1, 0), 30);
        due("the other phase", x.use(1, 1, 0), 0);
        x.exempt(0, 1, 25);
        x.area(0, 1, 26);
        due("the exempt area below it stays", x.use(0, 1, 1), 25);
        x.area(0, 1, 24);
        due("the exempt area becomes at most that", x.use(0, 1, 1), 24);
        x.area(0, 1, 999);
        due("the exempt area does not come back", x.use(0, 1, 1), 24);
        x.area(0, 1, 0);
        due("no exempt area", x.use(0, 1, 1), 0);
        x.undo();
        due("undo brings the area back", x.use(0, 1, 0), 999);
        due("undo brings the exempt area back", x.use(0, 1, 1), 24);

        long before = x.digest();
        index("no phase", () -> x.area(2, 0, 1));
        index("no phase before range", () -> x.area(-1, 0, 1000));
        index("no use", () -> x.area(0, 4, 1));
        index("no use before range", () -> x.area(0, -1, -1));
        range("area -1", () -> x.area(0, 0, -1));
        range("area 1000", () -> x.area(0, 0, 1000));
        range("least int", () -> x.area(0, 0, Integer.MIN_VALUE));
        index("most int", () -> x.area(Integer.MAX_VALUE, 0, 0));
        index("most int use", () -> x.area(0, Integer.MAX_VALUE, 0));
        due("nothing is changed", x.digest(), before);
        x.begin(0);
        index("no use before a reason", () -> x.area(0, 4, 1));
        range("range before a reason", () -> x.area(0, 0, 1000));
        state("it has begun", () -> x.area(0, 0, 1));
        due("the other one has not", x.area(1, 0, 1), 20);
    }

    private static void exempt() {
        LevyPhases x = withPhases(2);
        due("exempt(0, 0, 4)", x.exempt(0, 0, 4), 0);
        due("exempt(0, 0, 10)", x.exempt(0, 0, 10), 4);
        due("the exempt area", x.use(0, 0, 1), 10);
        due("its relief", x.phase(0, 2), 1000);
        due("exempt(0, 0, 0)", x.exempt(0, 0, 0), 10);
        x.area(0, 2, 999);
        due("exempt(0, 2, 999)", x.exempt(0, 2, 999), 0);
        due("the other phase", x.use(1, 2, 1), 0);
        due("undo of exempt", x.undo(), 5);
        due("undone", x.use(0, 2, 1), 0);

        long before = x.digest();
        range("above the area", () -> x.exempt(0, 0, 11));
        range("above the area of this use", () -> x.exempt(0, 1, 1));
        range("below 0", () -> x.exempt(0, 0, -1));
        range("above 999", () -> x.exempt(0, 2, 1000));
        index("no phase", () -> x.exempt(2, 0, 0));
        index("no phase before range", () -> x.exempt(-1, 0, 1000));
        index("no use before range", () -> x.exempt(0, 4, 1000));
        index("use -1", () -> x.exempt(0, -1, 0));
        due("nothing is changed", x.digest(), before);
        x.begin(0);
        range("above the area before a reason", () -> x.exempt(0, 0, 11));
        state("it has begun", () -> x.exempt(0, 0, 10));
        index("no use before a reason", () -> x.exempt(0, 4, 0));
    }

    private static void rate() {
        LevyPhases x = withPhases(3);
        x.begin(0);
        due("rate(0, 999)", x.rate(0, 999), 100);
        due("rate(0, 0)", x.rate(0, 0), 999);
        due("rate(0, 7)", x.rate(0, 7), 0);
        due("rate(3, 8)", x.rate(3, 8), 0);
        due("the rate", x.count(11), 7);
        due("the rate of sheds", x.count(14), 8);
        due("fixed", x.use(0, 0, 2), 100);
        due("the charge is fixed", x.phase(0, 1), 1000);
        due("not fixed", x.use(1, 0, 2), 7);
        due("the charge is not fixed", x.phase(1, 1), 140);
        due("the other one is not fixed", x.phase(2, 1), 210);
        x.addPhase();
        due("a new phase has it, too", x.use(3, 3, 2), 8);
        x.undo();
        x.undo();
        due("undo of rate", x.use(2, 3, 2), 0);
        due("undo of rate, phase 0", x.count(14), 0);
        long before = x.digest();
        index("no use", () -> x.rate(4, 0));
        index("no use before range", () -> x.rate(-1, 1000));
        range("rate 1000", () -> x.rate(0, 1000));
        range("rate -1", () -> x.rate(0, -1));
        due("nothing is changed", x.digest(), before);
        int saved = x.count(15);
        x.rate(0, 7);
        due("a rate that changes nothing is saved, too", x.count(15), saved + 1);
    }

    private static void set() {
        LevyPhases x = new LevyPhases();
        int[] first = {60, 5, 700, 50};
        int[] least = {1, 0, 0, 0};
        int[] most = {120, 50, 3000, 100};
        for (int i = 0; i < 4; i++) {
            int s = i;
            due("set to the least", x.set(s, least[s]), first[s]);
            due("set to the most", x.set(s, most[s]), least[s]);
            range("below the least", () -> x.set(s, least[s] - 1));
            range("above the most", () -> x.set(s, most[s] + 1));
            due("the setting", x.setting(s), most[s]);
            x.undo();
            due("undo of set", x.setting(s), least[s]);
        }
        index("no setting", () -> x.set(4, 1));
        index("no setting before range", () -> x.set(-1, 5000));
        due("saved", x.count(15), 4);
    }

    private static void begin() {
        LevyPhases x = withPhases(4);
        x.exempt(0, 0, 3);
        x.pass(5);
        due("begin(0)", x.begin(0), 700);
        due("the day", x.phase(0, 0), 5);
        due("count(1)", x.count(1), 1);
        x.undo();
        due("undo of begin", x.phase(0, 0), -1);
        int[] notBegun = {-1, 1000, 300, 0, 0, 0, 0, 0, 0, 0, 0, 0, 10, 0};
        properties(x, notBegun);
        due("no instalment is left of an undone beginning", x.instalment(0, 0, 0), -1);
        due("begin(0) anew", x.begin(0), 700);
        x.begin(1);
        x.set(0, 3);
        x.undo();
        x.undo();
        due("the days of another phase's instalments stay", x.instalment(0, 0, 2), 65);
        long before = x.digest();
        state("it has begun", () -> x.begin(0));
        index("no phase", () -> x.begin(4));
        index("phase -1", () -> x.begin(-1));
        x.addPhase();
        state("it has no area", () -> x.begin(4));
        x.undo();
        x.begin(1);
        x.undo();
        due("the saved states are as many", x.count(15), 4);
        due("phases as before", x.phase(1, 0), -1);
        due("an undone beginning leaves nothing", x.digest(), before);

        LevyPhases y = new LevyPhases();
        y.addPhase();
        y.area(0, 3, 1);
        due("an area without a charge can begin", y.begin(0), 0);
        due("one instalment of 0", y.phase(0, 10) * 10 + y.phase(0, 11), 11);
        instalmentsBySize();
        due("all is exempt", allExempt(), 0);
    }

    private static int allExempt() {
        LevyPhases x = withPhases(1);
        x.exempt(0, 0, 10);
        return x.begin(0);
    }

    /** Sums beside each limit, as area of one use with a rate, and one of another with rate 1. */
    private static void instalmentsBySize() {
        int[] sums = {1, 999, 1000, 1001, 4999, 5000, 5001, 19999, 20000, 20003};
        int[] parts = {1, 1, 2, 2, 2, 3, 3, 3, 4, 4};
        int[] lasts = {1, 999, 500, 501, 2500, 1668, 1667, 6667, 5000, 5003};
        for (int i = 0; i < sums.length; i++) {
            LevyPhases x = new LevyPhases();
            x.addPhase();
            x.rate(0, 100);
            x.rate(1, 1);
            x.area(0, 0, sums[i] / 100);
            x.area(0, 1, sums[i] % 100);
            due("ifBegun sum", x.ifBegun(0, 0), sums[i]);
            due("ifBegun instalments of " + sums[i], x.ifBegun(0, 1), parts[i]);
            due("ifBegun last of " + sums[i], x.ifBegun(0, 2), lasts[i]);
            due("begin", x.begin(0), sums[i]);
            due("instalments of " + sums[i], x.phase(0, 10), parts[i]);
            int sum = 0;
            for (int k = 0; k < parts[i]; k++) {
                sum += x.instalment(0, k, 0);
            }
            due("all instalments of " + sums[i], sum, sums[i]);
            due("the last one of " + sums[i], x.instalment(0, parts[i] - 1, 0), lasts[i]);
            due("the first one of " + sums[i], x.instalment(0, 0, 0), sums[i] / parts[i]);
        }
        due("relief counts for the size", reliefCounts(), 1);
    }

    private static int reliefCounts() {
        LevyPhases x = withPhases(1);
        x.exempt(0, 0, 1);
        x.begin(0);
        return x.phase(0, 10);
    }

    private static void pay() {
        LevyPhases x = begun(52);
        due("5200 in three", x.instalment(0, 2, 0), 1734);
        due("pay(0, 1732)", x.pay(0, 1732), 1732);
        due("1 is open", x.instalment(0, 0, 1), 1);
        due("none is whole", x.phase(0, 11), 0);
        due("pay(0, 3)", x.pay(0, 3), 3);
        due("the first is whole", x.instalment(0, 0, 1), 0);
        due("the next has 2", x.instalment(0, 1, 1), 1731);
        due("one is whole", x.phase(0, 11), 1);
        due("owed", x.phase(0, 3), 3465);
        x.undo();
        due("undo of pay", x.phase(0, 3), 3468);
        due("undo of pay, what is open", x.instalment(0, 0, 1), 1);
        due("undo of pay, the next", x.instalment(0, 1, 1), 1733);
        due("undo of pay, none is whole", x.phase(0, 11), 0);
        due("undo of pay, the first breaks it", x.breaksIn(0), 61);
        due("only what is owed is taken", x.pay(0, 99999), 3468);
        due("paid", x.phase(0, 5), 5200);
        state("nothing is owed", () -> x.pay(0, 1));
        range("money before a reason", () -> x.pay(0, 0));
        range("100000", () -> x.pay(0, 100000));
        range("-1", () -> x.pay(0, -1));
        index("no phase before range", () -> x.pay(1, 0));
        index("phase -1", () -> x.pay(-1, 1));

        LevyPhases y = withPhases(1);
        state("it has not begun", () -> y.pay(0, 1));
        y.exempt(0, 0, 5);
        y.begin(0);
        y.lapse(0, 0);
        due("500 and 500 lapsed", y.phase(0, 3), 1000);
        y.pay(0, 600);
        due("instalments come before lapsed money", y.instalment(0, 0, 1), 0);
        due("what is open of lapsed money is due", y.phase(0, 4), 400);
        due("lapsed so far", y.phase(0, 8), 500);
        due("lapsed money is taken", y.pay(0, 500), 400);
        accounts(y);
    }

    private static void land() {
        LevyPhases x = begun(52);
        due("room", x.phase(0, 13), 2600);
        due("land(0, 1000)", x.land(0, 1000), 1000);
        due("it goes to instalments", x.instalment(0, 0, 1), 733);
        due("room is less", x.phase(0, 13), 1600);
        due("only what there is room for", x.land(0, 1601), 1600);
        due("taken as land", x.phase(0, 6), 2600);
        state("no room", () -> x.land(0, 1));
        due("why", x.whyNot(3, 0, 0), 5);
        range("0 before a reason", () -> x.land(0, 0));
        range("100000", () -> x.land(0, 100000));
        index("no phase before range", () -> x.land(1, 0));
        index("phase -1", () -> x.land(-1, 1));
        x.undo();
        due("undo of land", x.phase(0, 6), 1000);
        due("undo of land, what is open", x.instalment(0, 0, 1), 733);
        due("undo of land, what is open of the last", x.instalment(0, 2, 1), 1734);
        x.pay(0, 4200);
        due("room, but nothing owed", x.phase(0, 13), 1600);
        due("nothing owed comes first", x.whyNot(3, 0, 0), 4);
        state("nothing is owed", () -> x.land(0, 1));
        accounts(x);

        LevyPhases y = withPhases(1);
        state("it has not begun", () -> y.land(0, 1));
        due("no room before it begins", y.phase(0, 13), 0);
        y.begin(0);
        y.pay(0, 800);
        due("only what is owed", y.land(0, 99999), 200);
        due("room that is left", y.phase(0, 13), 300);
    }

    private static void landRoomNow() {
        LevyPhases x = withPhases(1);
        x.area(0, 0, 999);
        x.exempt(0, 0, 500);
        x.begin(0);
        due("room by charge less relief", x.phase(0, 13), 24950);
        x.set(3, 33);
        due("33 percent, rounded down", x.phase(0, 13), 16467);
        x.land(0, 16000);
        x.set(3, 10);
        due("never below 0", x.phase(0, 13), 0);
        state("no room", () -> x.land(0, 1));
        x.lapse(0, 0);
        due("still none", x.phase(0, 13), 0);
        x.set(3, 20);
        due("a lapse makes room", x.phase(0, 13), 3980);
        x.set(3, 0);
        due("no land at all", x.phase(0, 13), 0);
        x.set(3, 100);
        due("all in land", x.phase(0, 13), 83900);
        due("all that is owed", x.land(0, 99999), 83900);
        due("room is used", x.phase(0, 13), 0);
        accounts(x);
    }

    private static void lapse() {
        LevyPhases x = withPhases(2);
        x.area(0, 1, 20);
        x.exempt(0, 0, 4);
        x.exempt(0, 1, 5);
        state("it has not begun", () -> x.lapse(0, 0));
        x.begin(0);
        due("lapse(0, 0)", x.lapse(0, 0), 400);
        due("no relief of it", x.use(0, 0, 4), 0);
        due("its exempt area stays", x.use(0, 0, 1), 4);
        due("relief of the other use", x.phase(0, 2), 300);
        due("lapsed so far", x.phase(0, 8), 400);
        due("owed", x.phase(0, 3), 1900);
        due("due at once", x.phase(0, 4), 400);
        due("no instalment is changed", x.instalment(0, 1, 0), 750);
        state("no relief", () -> x.lapse(0, 0));
        state("never any relief", () -> x.lapse(0, 2));
        due("lapse(0, 1)", x.lapse(0, 1), 300);
        due("lapsed so far, both", x.phase(0, 8), 700);
        x.undo();
        due("undo of lapse", x.phase(0, 8), 400);
        due("can lapse again", x.whyNot(4, 0, 1), 0);
        index("no phase", () -> x.lapse(2, 0));
        index("phase -1", () -> x.lapse(-1, 0));
        index("no use", () -> x.lapse(0, 4));
        index("no use before a reason", () -> x.lapse(1, -1));
        accounts(x);

        LevyPhases y = new LevyPhases();
        y.addPhase();
        y.area(0, 3, 9);
        y.exempt(0, 3, 9);
        y.begin(0);
        state("an exempt area without a rate has no relief", () -> y.lapse(0, 3));
    }

    private static void lapseInTime() {
        LevyPhases x = withPhases(1);
        x.exempt(0, 0, 10);
        x.pass(3);
        x.begin(0);
        x.set(2, 20);
        x.pass(20);
        due("the last day", x.whyNot(4, 0, 0), 0);
        x.pass(1);
        due("a day too late", x.whyNot(4, 0, 0), 6);
        state("too late", () -> x.lapse(0, 0));
        x.set(2, 21);
        due("the setting as it is now", x.lapse(0, 0), 1000);
        due("all is paid whole, nothing breaks", x.breaksIn(0), -1);
        due("lapsed money alone does not break it", x.pass(99), 0);
        due("it is not broken", x.phase(0, 9), 0);

        LevyPhases y = withPhases(1);
        y.exempt(0, 0, 1);
        y.set(2, 0);
        y.begin(0);
        due("on the day itself", y.lapse(0, 0), 100);
        y.undo();
        y.set(2, 3000);
        y.pass(61);
        due("broken, 900 and 45", y.phase(0, 3), 945);
        due("a broken one can lapse", y.lapse(0, 0), 100);
        due("all is due", y.phase(0, 4), 1045);
        due("no more surcharge", y.pass(99), 0);
        due("surcharges stay", y.phase(0, 7), 45);
        accounts(y);
    }

    private static void pass() {
        LevyPhases x = begun(10);
        due("two instalments of 500", x.instalment(0, 1, 0), 500);
        due("60 days", x.pass(60), 0);
        due("the number of the day", x.count(3), 60);
        due("due on the day through which it is due", x.phase(0, 4), 500);
        due("not broken", x.phase(0, 9), 0);
        due("a day more", x.pass(1), 50);
        due("broken", x.phase(0, 9), 1);
        due("surcharges", x.phase(0, 7), 50);
        due("all is due", x.phase(0, 4), 1050);
        due("once at most", x.pass(99), 0);
        x.undo();
        due("undo of pass, as one call", x.count(3), 61);
        x.undo();
        due("undo of the breaking pass", x.count(3), 60);
        due("unbroken", x.phase(0, 9) + x.phase(0, 7), 0);
        x.pay(0, 500);
        due("paid in time", x.pass(60), 0);
        due("only the second is late", x.pass(1), 25);
        due("count(2)", x.count(2), 1);
        due("count(8)", x.count(8), 25);
        range("0 days", () -> x.pass(0));
        range("100 days", () -> x.pass(100));
        range("-1 day", () -> x.pass(-1));
        accounts(x);

        LevyPhases y = withPhases(3);
        y.exempt(2, 0, 1);
        y.begin(0);
        y.begin(2);
        y.lapse(2, 0);
        y.set(1, 7);
        due("of all phases that have begun", y.pass(99), 70 + 210);
        due("the surcharge is of lapsed money, too", y.phase(2, 7), 210);
        due("one that has not begun", y.phase(1, 9), 0);
        y.begin(1);
        y.set(1, 0);
        due("no percent", y.pass(61), 0);
        due("broken without surcharge", y.phase(1, 9), 1);

        LevyPhases z = begun(9);
        z.pay(0, 881);
        z.pass(60);
        due("19 times 5 divided by 100", z.pass(1), 0);
        due("broken all the same", z.phase(0, 9), 1);
    }

    private static void passLimit() {
        LevyPhases x = withPhases(2);
        passDays(x, 9990);
        x.begin(0);
        due("9 days are left", x.pass(9), 0);
        due("9999", x.count(3), 9999);
        long before = x.digest();
        state("9999 is the last day", () -> x.pass(1));
        state("99 are too many", () -> x.pass(99));
        range("range before state", () -> x.pass(100));
        range("range before state, too", () -> x.pass(0));
        due("nothing is changed", x.digest(), before);
        due("the limit does not matter to what would be", x.breaksIn(0), 52);
        due("surcharges beyond the limit", x.surchargesIn(52), 50);
        due("none before", x.surchargesIn(51), 0);
        due("due beyond the limit", x.dueIn(0, 52), 1050);
        due("it is the most urgent one", x.mostUrgent(), 0);
        write(x, "b1;d1;b1");
        due("days above the limit end the run", x.run(), 1);
        x.undo();
        x.undo();
        state("ten days are one too many", () -> x.pass(10));
        due("nine are not", x.pass(9), 0);
    }

    private static void append() {
        LevyPhases x = new LevyPhases();
        due("the first code", x.append(33), 1);
        due("the last code", x.append(126), 2);
        range("32", () -> x.append(32));
        range("127", () -> x.append(127));
        range("-1", () -> x.append(-1));
        range("65536 + 97", () -> x.append(65633));
        for (int i = 3; i <= 60; i++) {
            due("append", x.append('a'), i);
        }
        long before = x.digest();
        state("60 are the most", () -> x.append('a'));
        range("range before state", () -> x.append(32));
        due("nothing is changed", x.digest(), before);
        due("not undoable", x.count(15), 0);
    }

    private static void clearBuffer() {
        LevyPhases x = withPhases(1);
        write(x, "d1;");
        int saved = x.count(15);
        due("three", x.clearBuffer(), 3);
        due("none", x.clearBuffer(), 0);
        due("not undoable", x.count(15), saved);
        due("from the start again", x.append('d'), 1);
        x.append('2');
        due("only what came since", x.run() + x.count(3), 1 + 2);
        write(x, "d12;d5");
        x.clearBuffer();
        write(x, "d1");
        due("nothing of what was cleared", x.firstError(), 2);
        due("an order", x.run(), 1);
        due("a day, not twelve", x.count(3), 3);
    }

    private static void error(String text, int want) {
        LevyPhases x = new LevyPhases();
        write(x, text);
        long before = x.digest();
        due("firstError of " + text, x.firstError(), want);
        due("firstError again of " + text, x.firstError(), want);
        due("firstError changes nothing", x.digest(), before);
    }

    private static void firstError() {
        String[] fine = {"", "a", "a0", "a53", "a53=", "a53=0", "a53=999", "a53=10", "a53=1;", "b", "b5", "b5;b0;", "p",
            "p5", "p5:", "p5:1", "p5:99999", "p5:10000;d", "d", "d1", "d99", "d10;a", "d9;d9;d9;b0;p0:7;a01=5"};
        for (String text : fine) {
            error(text, text.length());
        }
        String[] firstWrong = {"c", ";", "A", "0", "=", "B0", "~"};
        for (String text : firstWrong) {
            error(text, 0);
            error("d1;" + text + "d1", 3);
        }
        error("a6", 1);
        error("a/", 1);
        error("a:", 1);
        error("aa", 1);
        error("a04", 2);
        error("a0=", 2);
        error("a00;", 3);
        error("a00:", 3);
        error("a001", 3);
        error("a00=;", 4);
        error("a00=-", 4);
        error("a00=a", 4);
        error("a00=00", 5);
        error("a00=01", 5);
        error("a00=1000", 7);
        error("a00=999a", 7);
        error("a00=9;;", 6);
        error("b6", 1);
        error("b;", 1);
        error("b00", 2);
        error("b0b0", 2);
        error("b0,b0", 2);
        error("p6", 1);
        error("p0=", 2);
        error("p00", 2);
        error("p0:0", 3);
        error("p0:;", 3);
        error("p0:100000", 8);
        error("p0:01", 3);
        error("a0/", 2);
        error("a00=/", 4);
        error("a00=:", 4);
        error("a00=1/", 5);
        error("a00=1:", 5);
        error("p/", 1);
        error("p0:/", 3);
        error("p0::", 3);
        error("p0:1/", 4);
        error("d/", 1);
        error("d:", 1);
        error("d1/", 2);
        error("d0", 1);
        error("d;", 1);
        error("d01", 1);
        error("d100", 3);
        error("d1:", 2);
        error("d99;d100;x", 7);
        error("x;y;z", 0);
        StringBuilder full = new StringBuilder();
        while (full.length() < 60) {
            full.append("d1;");
        }
        error(full.toString(), 60);
        error(full.substring(0, 57) + "a00", 60);
    }

    private static void run() {
        LevyPhases x = withPhases(2);
        write(x, "a01=20;b0;p0:300;d60;d1;a10=7");
        due("six orders", x.run(), 6);
        due("the buffer is cleared", x.clearBuffer(), 0);
        due("its day", x.count(3), 61);
        due("its charge", x.phase(0, 1), 2200);
        due("paid", x.phase(0, 5), 300);
        due("broken on the way", x.phase(0, 7), 95);
        due("the other area", x.use(1, 0, 0), 7);
        due("one state is saved", x.count(15), 5);
        due("undone as one call", x.undo(), 4);
        due("as before", x.count(3) + x.count(1) + x.use(0, 1, 0) * 100L + x.use(1, 0, 0), 20);
        due("the buffer is not restored", x.clearBuffer(), 0);

        String[] incomplete = {"", "d", "d1;", "a00=", "b", "p0:", "a0", ";d1", "d1;;d1", "d1;x", "d0", "d100", "b0 "};
        for (String text : incomplete) {
            LevyPhases y = withPhases(1);
            write(y, text.trim());
            if (text.endsWith(" ")) {
                write(y, "0");
            }
            long before = y.digest();
            range("not complete: " + text, y::run);
            due("nothing is changed by " + text, y.digest(), before);
        }
        LevyPhases z = withPhases(1);
        write(z, "a00=5");
        z.exempt(0, 0, 8);
        due("an area in a run", z.run(), 1);
        due("cuts the exempt area, too", z.use(0, 0, 1), 5);
        LevyPhases numbers = withPhases(1);
        write(numbers, "a02=987;b0;p0:12345;d87;d9");
        due("numbers of several digits", numbers.run(), 5);
        due("the area of three digits", numbers.use(0, 2, 0), 987);
        due("the money of five digits", numbers.phase(0, 5), 12345);
        due("the days of two digits", numbers.count(3), 96);
        StringBuilder most = new StringBuilder("d1");
        while (most.length() < 58) {
            most.append(";d1");
        }
        write(z, most.toString());
        due("twenty orders", z.run() * 100 + z.count(3), 2020);
    }

    /** A row of orders on two phases, of which phase 1 has begun. */
    private static void stops(String text, int done) {
        LevyPhases x = withPhases(2);
        x.begin(1);
        write(x, text);
        int before = x.count(15);
        due("carried out of " + text, x.run(), done);
        due("saved by " + text, x.count(15), before + 1);
        due("cleared by " + text, x.clearBuffer(), 0);
    }

    private static void runStops() {
        stops("b2", 0);
        stops("a20=5;d1", 0);
        stops("p5:1;d1", 0);
        stops("d1;b1;d1", 1);
        stops("d1;p0:1;d1", 1);
        stops("a10=5;d1", 0);
        stops("d1;d2;a00=0;b0;d1", 3);
        stops("a00=0;b0", 1);
        stops("b0;b0;d1", 1);
        stops("p1:99999;p1:1;d1", 1);
        LevyPhases x = withPhases(1);
        x.set(0, 10);
        write(x, "d5;b3;d5");
        due("up to the first one", x.run() * 100 + x.count(3), 105);
        x.undo();
        due("the undo of it", x.count(3), 0);
    }

    private static void undo() {
        LevyPhases x = new LevyPhases();
        state("none is saved", x::undo);
        for (int i = 1; i <= 9; i++) {
            x.rate(0, i);
            due("at most 6", x.count(15), Math.min(i, 6));
        }
        for (int i = 8; i >= 3; i--) {
            due("states that are left", x.undo(), i - 3);
            due("the state before", x.count(11), i);
        }
        state("the oldest ones are dropped", x::undo);
        due("nothing is changed", x.count(11), 3);
        x.rate(0, 50);
        x.undo();
        due("saved anew", x.count(11), 3);

        LevyPhases y = begun(10);
        y.append('d');
        y.set(0, 9);
        y.append('1');
        y.undo();
        due("the buffer stays", y.clearBuffer(), 2);
        due("settings are restored", y.setting(0), 60);
        y.pass(99);
        y.land(0, 70);
        long before = y.digest();
        y.pass(1);
        y.undo();
        due("a state as it was", y.digest(), before);
        state("a refused call", () -> y.begin(0));
        due("saves nothing", y.digest(), before);
        due("an undo can be followed by others", y.undo(), 4);
        due("the one before", y.undo(), 3);
    }

    private static void properties(LevyPhases x, int... want) {
        for (int what = 0; what < want.length; what++) {
            due("phase(0, " + what + ")", x.phase(0, what), want[what]);
        }
    }

    private static void phase() {
        LevyPhases x = withPhases(1);
        x.area(0, 1, 20);
        x.area(0, 3, 5);
        x.exempt(0, 0, 2);
        x.exempt(0, 1, 3);
        x.pass(4);
        properties(x, -1, 2200, 380, 0, 0, 0, 0, 0, 0, 0, 0, 0, 35, 0);
        x.begin(0);
        properties(x, 4, 2200, 380, 1820, 0, 0, 0, 0, 0, 0, 2, 0, 35, 910);
        x.pay(0, 910);
        x.land(0, 10);
        x.lapse(0, 1);
        properties(x, 4, 2200, 200, 1080, 180, 910, 10, 0, 180, 0, 2, 1, 35, 990);
        passDays(x, 120);
        properties(x, 4, 2200, 200, 1080, 1080, 910, 10, 0, 180, 0, 2, 1, 35, 990);
        x.pass(1);
        properties(x, 4, 2200, 200, 1134, 1134, 910, 10, 54, 180, 1, 2, 1, 35, 990);
        x.pay(0, 99999);
        properties(x, 4, 2200, 200, 0, 0, 2044, 10, 54, 180, 1, 2, 2, 35, 990);
        range("what -1", () -> x.phase(0, -1));
        range("what 14", () -> x.phase(0, 14));
        index("no phase before range", () -> x.phase(1, 14));
        index("phase -1", () -> x.phase(-1, 0));
    }

    private static void use() {
        LevyPhases x = withPhases(1);
        x.exempt(0, 0, 4);
        int[] before = {10, 4, 100, 1000, 400};
        for (int what = 0; what < 5; what++) {
            due("use(0, 0, " + what + ")", x.use(0, 0, what), before[what]);
            due("use(0, 1, " + what + ")", x.use(0, 1, what), what == 2 ? 60 : 0);
        }
        x.rate(0, 50);
        due("the charge by the rate as it is now", x.use(0, 0, 3), 500);
        due("relief likewise", x.use(0, 0, 4), 200);
        x.begin(0);
        x.rate(0, 90);
        due("the fixed rate", x.use(0, 0, 2), 50);
        due("the fixed charge", x.use(0, 0, 3), 500);
        x.lapse(0, 0);
        due("relief that has lapsed", x.use(0, 0, 4), 0);
        due("the charge stays", x.use(0, 0, 3), 500);
        range("what -1", () -> x.use(0, 0, -1));
        range("what 5", () -> x.use(0, 0, 5));
        index("no use before range", () -> x.use(0, 4, 5));
        index("use -1", () -> x.use(0, -1, 0));
        index("no phase", () -> x.use(1, 0, 0));
        index("phase -1", () -> x.use(-1, 0, 9));
    }

    private static void instalment() {
        LevyPhases x = withPhases(2);
        x.area(1, 0, 203);
        x.rate(0, 99);
        x.set(0, 7);
        x.pass(3);
        due("not begun", x.instalment(1, 0, 0), -1);
        x.begin(1);
        x.set(0, 100);
        int[] sums = {5024, 5024, 5024, 5025};
        for (int k = 0; k < 4; k++) {
            due("its sum", x.instalment(1, k, 0), sums[k]);
            due("what is open", x.instalment(1, k, 1), sums[k]);
            due("its day, by the days when it began", x.instalment(1, k, 2), 3 + 7 * (k + 1));
        }
        x.pay(1, 5024 * 3 + 1);
        int[] open = {0, 0, 0, 5024};
        for (int k = 0; k < 4; k++) {
            due("sums stay", x.instalment(1, k, 0), sums[k]);
            due("what is open then", x.instalment(1, k, 1), open[k]);
        }
        x.begin(0);
        due("the only one", x.instalment(0, 0, 0), 990);
        due("its day", x.instalment(0, 0, 2), 103);
        for (int what = 0; what < 3; what++) {
            due("not so many", x.instalment(0, 1, what), -1);
            due("not so many", x.instalment(0, 3, what), -1);
        }
        range("k -1", () -> x.instalment(0, -1, 0));
        range("k 4", () -> x.instalment(0, 4, 0));
        range("what -1", () -> x.instalment(0, 0, -1));
        range("what 3 of one that is not there", () -> x.instalment(0, 3, 3));
        index("no phase before range", () -> x.instalment(2, 4, 3));
        index("phase -1", () -> x.instalment(-1, 0, 0));
    }

    private static void numbers(LevyPhases x, int... want) {
        for (int what = 0; what < want.length; what++) {
            due("count(" + what + ")", x.count(what), want[what]);
        }
    }

    private static void count() {
        LevyPhases x = withPhases(3);
        x.exempt(0, 0, 5);
        x.exempt(1, 0, 4);
        x.begin(0);
        x.pass(31);
        x.begin(1);
        x.pay(1, 100);
        x.land(1, 50);
        numbers(x, 3, 2, 0, 31, 3000, 900, 100, 50, 0, 1950, 0, 100, 60, 30, 0, 6);
        x.pass(30);
        numbers(x, 3, 2, 1, 61, 3000, 900, 100, 50, 25, 1975, 525, 100, 60, 30, 0, 6);
        x.lapse(1, 0);
        x.rate(1, 11);
        x.rate(2, 12);
        x.rate(3, 13);
        x.rate(0, 14);
        numbers(x, 3, 2, 1, 61, 3000, 500, 100, 50, 25, 2375, 925, 14, 11, 12, 13, 6);
        range("count(-1)", () -> x.count(-1));
        range("count(16)", () -> x.count(16));
        x.undo();
        due("count(15)", x.count(15), 5);
    }

    private static void setting() {
        LevyPhases x = new LevyPhases();
        for (int i = 0; i < 4; i++) {
            x.set(i, 11 + i);
        }
        for (int i = 0; i < 4; i++) {
            due("setting(" + i + ")", x.setting(i), 11 + i);
        }
        index("setting(-1)", () -> x.setting(-1));
        index("setting(4)", () -> x.setting(4));
    }

    private static void reasons(LevyPhases x, int... want) {
        for (int what = 0; what < want.length; what++) {
            due("whyNot(" + what + ", 0, 0)", x.whyNot(what, 0, 0), want[what]);
        }
    }

    private static void whyNot() {
        LevyPhases x = withPhases(1);
        x.area(0, 0, 0);
        reasons(x, 0, 3, 2, 2, 2);
        x.area(0, 0, 10);
        x.exempt(0, 0, 1);
        reasons(x, 0, 0, 2, 2, 2);
        x.begin(0);
        reasons(x, 1, 1, 0, 0, 0);
        due("a lapse of another use", x.whyNot(4, 0, 1), 6);
        due("the use does not matter", x.whyNot(2, 0, 1), 0);
        x.land(0, 450);
        reasons(x, 1, 1, 0, 5, 0);
        x.pay(0, 450);
        reasons(x, 1, 1, 4, 4, 0);
        x.lapse(0, 0);
        reasons(x, 1, 1, 0, 0, 6);
        range("what -1", () -> x.whyNot(-1, 0, 0));
        range("what 5", () -> x.whyNot(5, 0, 0));
        index("no use before range", () -> x.whyNot(5, 0, 4));
        index("a use out of range where it does not matter", () -> x.whyNot(0, 0, -1));
        index("no phase", () -> x.whyNot(0, 1, 0));
        index("phase -1", () -> x.whyNot(9, -1, 0));
    }

    private static void ifBegun() {
        LevyPhases x = withPhases(1);
        x.area(0, 0, 56);
        x.exempt(0, 0, 4);
        long before = x.digest();
        due("owed", x.ifBegun(0, 0), 5200);
        due("instalments", x.ifBegun(0, 1), 3);
        due("the last one", x.ifBegun(0, 2), 1734);
        due("nothing is changed", x.digest(), before);
        x.rate(0, 101);
        due("by the rates as they are now", x.ifBegun(0, 0), 5252);
        x.addPhase();
        x.begin(0);
        for (int what = 0; what < 3; what++) {
            due("it has begun", x.ifBegun(0, what), -1);
            due("it has no area", x.ifBegun(1, what), -1);
        }
        range("what -1", () -> x.ifBegun(0, -1));
        range("what 3", () -> x.ifBegun(1, 3));
        index("no phase before range", () -> x.ifBegun(2, 3));
        index("phase -1", () -> x.ifBegun(-1, 0));
        x.area(1, 3, 3);
        due("a charge of 0", x.ifBegun(1, 0) * 100 + x.ifBegun(1, 1) * 10 + x.ifBegun(1, 2), 10);
    }

    private static void breaksIn() {
        LevyPhases x = withPhases(2);
        due("not begun", x.breaksIn(0), -1);
        x.begin(0);
        due("60 and 1", x.breaksIn(0), 61);
        x.pass(10);
        due("50 and 1", x.breaksIn(0), 51);
        x.pay(0, 499);
        due("not whole", x.breaksIn(0), 51);
        x.pay(0, 1);
        due("the next instalment", x.breaksIn(0), 111);
        x.set(0, 1);
        due("days stay as they were", x.breaksIn(0), 111);
        x.begin(1);
        due("days as they are now", x.breaksIn(1), 2);
        x.pass(1);
        due("tomorrow", x.breaksIn(1), 1);
        x.pass(1);
        due("it is broken", x.breaksIn(1), -1);
        due("just so", x.phase(1, 9), 1);
        x.pay(0, 500);
        due("never", x.breaksIn(0), -1);
        index("no phase", () -> x.breaksIn(2));
        index("phase -1", () -> x.breaksIn(-1));
    }

    private static void surchargesIn() {
        LevyPhases x = withPhases(3);
        x.begin(0);
        x.pass(10);
        x.begin(1);
        long before = x.digest();
        due("0 days", x.surchargesIn(0), 0);
        due("50 days", x.surchargesIn(50), 0);
        due("51 days", x.surchargesIn(51), 50);
        due("60 days", x.surchargesIn(60), 50);
        due("61 days", x.surchargesIn(61), 150);
        due("500 days", x.surchargesIn(500), 150);
        due("nothing is changed", x.digest(), before);
        x.set(1, 10);
        due("the percent as it is now", x.surchargesIn(500), 300);
        x.pass(51);
        due("only those that come", x.surchargesIn(500), 200);
        range("-1 day", () -> x.surchargesIn(-1));
        range("501 days", () -> x.surchargesIn(501));
    }

    private static void mostUrgent() {
        LevyPhases x = withPhases(5);
        due("none has begun", x.mostUrgent(), -1);
        x.begin(4);
        due("the only one", x.mostUrgent(), 4);
        x.pass(1);
        x.begin(3);
        due("the first to break", x.mostUrgent(), 4);
        x.pay(4, 2500);
        due("the next one breaks later", x.mostUrgent(), 3);
        x.begin(1);
        due("the one that owes most", x.mostUrgent(), 3);
        x.area(2, 0, 40);
        x.begin(2);
        due("the lowest number", x.mostUrgent(), 2);
        x.pay(2, 1);
        due("the one that owes more", x.mostUrgent(), 3);
        x.pass(61);
        due("broken ones do not count", x.mostUrgent(), 4);
        x.pay(4, 2500);
        due("none would be broken", x.mostUrgent(), -1);
    }

    private static void dueIn() {
        LevyPhases x = withPhases(2);
        x.exempt(0, 0, 5);
        x.area(0, 0, 25);
        due("not begun", x.dueIn(0, 500), 0);
        x.begin(0);
        x.lapse(0, 0);
        long before = x.digest();
        due("now", x.dueIn(0, 0), 500);
        due("59 days", x.dueIn(0, 59), 500);
        due("60 days", x.dueIn(0, 60), 1500);
        due("61 days", x.dueIn(0, 61), 2625);
        due("500 days", x.dueIn(0, 500), 2625);
        due("nothing is changed", x.digest(), before);
        x.pay(0, 1000);
        due("120 days", x.dueIn(0, 120), 1500);
        due("121 days", x.dueIn(0, 121), 1575);
        x.pay(0, 1000);
        due("only lapsed money", x.dueIn(0, 500), 500);
        x.begin(1);
        x.pass(61);
        due("broken", x.dueIn(1, 0), 2100);
        due("no further surcharge", x.dueIn(1, 500), 2100);
        range("-1 day", () -> x.dueIn(0, -1));
        range("501 days", () -> x.dueIn(0, 501));
        index("no phase before range", () -> x.dueIn(2, 501));
        index("phase -1", () -> x.dueIn(-1, 0));
    }

    private static void share(LevyPhases x, double want) {
        tell("settledShare()", Double.toString(x.settledShare()), Double.toString(want));
    }

    private static void settledShare() {
        LevyPhases x = withPhases(3);
        share(x, 1.0);
        x.exempt(0, 0, 10);
        x.begin(0);
        share(x, 1.0);
        x.begin(1);
        share(x, 0.0);
        x.pay(1, 300);
        share(x, 300.0 / 2000.0);
        x.land(1, 400);
        x.begin(2);
        share(x, 700.0 / 5000.0);
        x.lapse(0, 0);
        share(x, 700.0 / 6000.0);
        x.pass(61);
        share(x, 700.0 / 6215.0);
        x.pay(1, 99999);
        x.pay(2, 99999);
        x.pay(0, 999);
        share(x, 6214.0 / 6215.0);
        x.pay(0, 1);
        share(x, 1.0);
    }

    private static void digest() {
        Hashes.digestDue("new digest()", "", LevyPhases::new);
        Hashes.digestDue("digest() with a buffer", "~a!", () -> having(new LevyPhases(), "~a!"));
        Hashes.digestDue("digest() of six phases", "", () -> withPhases(6));
        for (int payments = 0; payments <= 40; payments++) {
            int some = payments;
            Hashes.digestDue("digest() of any share", "", () -> twoBegun(some, 0));
        }
        Hashes.digestDue("digest() of broken phases", "", () -> twoBegun(3, 61));
        LevyPhases y = twoBegun(3, 61);
        due("digest() asked again", y.digest(), y.digest());
        due("digest() saves nothing", y.count(15), 6);
        Hashes.digestDue("the smallest share of one phase", "", PromisesTest::mostOwed);
        LevyPhases z = mostOwed();
        z.set(1, 50);
        z.pass(61);
        due("the most that can be owed", z.phase(0, 3), 3992003 + 3992003 / 2);
        z.set(3, 100);
        due("the most room", z.phase(0, 13), 3992004);
        Hashes.digestDue("large numbers", "", () -> {
            LevyPhases x = mostOwed();
            x.pass(61);
            return x;
        });
        digestDays();
    }

    /** Six phases, of which two have begun; then so many payments, a lapse, and days. */
    private static LevyPhases twoBegun(int payments, int days) {
        LevyPhases x = withPhases(6);
        x.exempt(1, 0, 3);
        x.begin(1);
        x.begin(5);
        for (int i = 0; i < payments; i++) {
            x.pay(5, 1 + 3 * i);
        }
        x.lapse(1, 0);
        passDays(x, days);
        return x;
    }

    private static LevyPhases mostOwed() {
        LevyPhases x = new LevyPhases();
        x.addPhase();
        for (int u = 0; u < 4; u++) {
            x.area(0, u, 999);
            x.rate(u, 999);
        }
        x.begin(0);
        x.pay(0, 1);
        return x;
    }

    /** Days on which 100 and 200 days are just enough, and a day before. */
    private static void digestDays() {
        for (int between = 99; between <= 102; between++) {
            int days = between;
            Making due = () -> {
                LevyPhases x = withPhases(2);
                x.set(0, days);
                x.begin(0);
                return x;
            };
            Making dueTwice = () -> {
                LevyPhases x = due.made();
                x.pay(0, 500);
                return x;
            };
            Hashes.digestDue("due in " + days + " days", "", due);
            Hashes.digestDue("due in twice " + days + " days", "", dueTwice);
        }
    }
}
