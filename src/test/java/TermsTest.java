/** The sentences of the document's terms that are about the levy as a whole. */
final class TermsTest extends Levies {
    private TermsTest() {
    }

    public static void main(String[] args) {
        wholeLife();
        wholeNumbers();
        exemptAreas();
        areasBeforeTheBeginning();
        allIsAccountedFor();
        moneyAndLand();
        exemptionsLapse();
        daysPass();
        dueNow();
        rowsOfOrders();
        fromLeftToRight();
        finish("TermsTest", args);
    }

    private static void wholeLife() {
        sentence("A levy on new buildings: charges by area and use, phases that are charged by themselves when they begin, "
                + "exemptions that lapse within some days, instalments by the size of what is due, land that is taken "
                + "instead of money, surcharges on what is late, plans that are broken, money that is all accounted for, "
                + "reasons for what is refused, what would be, orders as texts, and undo.");
        LevyPhases x = halfExempt(2);
        due("charges by area and use", x.phase(0, 1), 20 * (100 + 60 + 30 + 5));
        due("what would be", x.ifBegun(0, 0), 1950);
        due("phases that are charged by themselves", x.begin(0), 1950);
        due("the other one is not", x.phase(1, 3), 0);
        due("instalments by the size of what is due", x.phase(0, 10), 2);
        due("exemptions that lapse", x.lapse(0, 0), 1000);
        due("land that is taken instead of money", x.land(0, 500), 500);
        due("reasons for what is refused", x.whyNot(1, 0, 0), 1);
        due("surcharges on what is late", x.pass(61), 122);
        due("plans that are broken", x.phase(0, 9), 1);
        accounts(x);
        write(x, "p0:72;b1");
        due("orders as texts", x.run(), 2);
        due("paid by them", x.phase(0, 3), 2500);
        due("begun by them", x.phase(1, 0), 61);
        x.undo();
        due("undo", x.phase(0, 3) + x.phase(1, 0), 2572 + NONE);
        accounts(x);
    }

    private static void wholeNumbers() {
        sentence("All numbers are integers, but for a share; divisions are rounded down.");
        LevyPhases x = owing(1001);
        x.set(1, 33);
        x.set(3, 33);
        due("half of 1001", x.instalment(0, 0, 0), 500);
        due("33 percent of 1001, as room", x.phase(0, 13), 330);
        x.pay(0, 334);
        dueTrue("a share", x.settledShare() == 334.0 / 1001.0);
        due("33 percent of 667, as surcharge", x.pass(61), 220);
    }

    private static void exemptAreas() {
        sentence("Each has, for each use, an area, 0 to 999, at first 0, and an exempt area of it, at most the area, "
                + "at first 0.");
        LevyPhases x = new LevyPhases();
        x.addPhase();
        for (int i = 0; i < 4; i++) {
            int use = i;
            due("at first", x.use(0, use, 1), 0);
            range("more than no area", () -> x.exempt(0, use, 1));
            x.area(0, use, 5 + use);
            due("at first, of an area", x.use(0, use, 1), 0);
            range("more than the area", () -> x.exempt(0, use, 6 + use));
            due("as much as the area", x.exempt(0, use, 5 + use), 0);
            x.area(0, use, 4);
            due("at most the area", x.use(0, use, 1), 4);
        }
    }

    private static void areasBeforeTheBeginning() {
        sentence("As long as a phase has not begun, its areas and exempt areas can be changed.");
        LevyPhases x = halfExempt(2);
        x.begin(1);
        for (int days = 1; days <= 99; days += 49) {
            x.pass(days);
            for (int use = 0; use < 4; use++) {
                due("no reason against it", x.whyNot(0, 0, use), 0);
                int before = x.use(0, use, 0);
                due("area()", x.area(0, use, before + 1), before);
                due("exempt()", x.exempt(0, use, before + 1), before - 10);
                x.exempt(0, use, before - 9);
            }
        }
        x.begin(0);
        for (int i = 0; i < 4; i++) {
            int use = i;
            due("a reason against it", x.whyNot(0, 0, use), 1);
            state("area() then", () -> x.area(0, use, 1));
            state("exempt() then", () -> x.exempt(0, use, 1));
        }
    }

    private static void allIsAccountedFor() {
        sentence("For each phase, the charge and its surcharges are always what was paid, what was taken as land, its "
                + "relief that has not lapsed, and what is owed, together.");
        for (int order = 0; order < 24; order++) {
            LevyPhases x = halfExempt(3);
            x.begin(order % 3);
            accounts(x);
            for (int i = 0; i < 24; i++) {
                step(x, (order * 7 + i * (2 * order + 1)) % 13, i % 3, i % 4);
                accounts(x);
            }
        }
    }

    /** Some call, if there is no reason against it. */
    private static void step(LevyPhases x, int kind, int phase, int use) {
        int[] reasons = {1, 2, 3, 4, 2, 3};
        if (kind < reasons.length && x.whyNot(reasons[kind], phase, use) != 0) {
            return;
        }
        switch (kind) {
            case 0: x.begin(phase); break;
            case 1: case 4: x.pay(phase, 77 * (use + 1)); break;
            case 2: case 5: x.land(phase, 55 * (use + 1)); break;
            case 3: x.lapse(phase, use); break;
            case 6: x.set(3, 30 * use); break;
            case 7: x.rate(use, 10 * phase); break;
            case 8: x.undo(); break;
            default: x.pass(7 * use + 13); break;
        }
    }

    private static void moneyAndLand() {
        sentence("Money that is paid, and land by its value, goes to the instalments of the phase in their order, as much "
                + "as is open of each, then to what lapsed, then to surcharges.");
        LevyPhases x = halfExemptBegun(2);
        x.lapse(1, 1);
        x.pay(1, 500);
        x.land(1, 500);
        due("the first one", x.instalment(1, 0, 1), 0);
        due("the second one", x.instalment(1, 1, 1), 950);
        due("what lapsed is due", x.phase(1, 4), 600);
        x.pay(1, 950);
        due("the second one then", x.instalment(1, 1, 1), 0);
        due("what lapsed is due still", x.phase(1, 4), 600);
        x.land(1, 200);
        due("land goes to what lapsed", x.phase(1, 4), 400);
        x.pay(1, 399);
        due("money, too", x.phase(1, 4), 1);
        due("the other phase", x.phase(0, 3), 1950);
        due("its instalment", x.instalment(0, 0, 1), 975);
        x.pass(61);
        x.pay(0, 1950);
        due("its surcharge is left", x.phase(0, 3), 97);
        due("land goes to surcharges", x.land(0, 90), 90);
        due("money goes to surcharges", x.pay(0, 90), 7);
    }

    private static void exemptionsLapse() {
        sentence("The exemption of a use of a phase that has begun can lapse through the day on which it begins plus "
                + "setting 2 (as it is now): its relief becomes 0, and what it was is owed as lapsed money, at once.");
        LevyPhases x = halfExempt(1);
        x.pass(5);
        due("not before it begins", x.whyNot(4, 0, 0), 2);
        x.begin(0);
        x.set(2, 10);
        x.pass(10);
        due("through day 15", x.lapse(0, 0), 1000);
        due("its relief", x.use(0, 0, 4), 0);
        due("owed", x.phase(0, 3), 2950);
        due("lapsed money", x.phase(0, 8), 1000);
        due("at once", x.phase(0, 4), 1000);
        x.pass(1);
        due("not on day 16", x.whyNot(4, 0, 1), 6);
        x.set(2, 11);
        due("setting 2 as it is now", x.lapse(0, 1), 600);
        accounts(x);
    }

    private static void daysPass() {
        sentence("Then each phase that has begun, and is not broken, is looked at, by ascending numbers: if an instalment "
                + "is not paid whole, and the number of the day is above the day through which it was due, the phase is "
                + "broken: all that is owed of it then, times setting 1, divided by 100, is its surcharge, and all of it "
                + "is due at once.");
        LevyPhases x = halfExempt(4);
        x.begin(0);
        x.begin(1);
        x.begin(3);
        x.pay(1, 974);
        x.pay(3, 975);
        due("day 60", x.pass(60), 0);
        due("day 61", x.pass(1), 97 + 48);
        int[] surcharges = {97, 48, 0, 0};
        int[] owed = {2047, 1024, 0, 975};
        int[] due = {2047, 1024, 0, 0};
        for (int p = 0; p < 4; p++) {
            due("broken, phase " + p, x.phase(p, 9), p < 2 ? 1 : 0);
            due("its surcharge, phase " + p, x.phase(p, 7), surcharges[p]);
            due("owed, phase " + p, x.phase(p, 3), owed[p]);
            due("due at once, phase " + p, x.phase(p, 4), due[p]);
        }
        due("day 120", x.pass(59), 0);
        due("day 121, only the one that is not broken", x.pass(1), 48);
        accounts(x);
    }

    private static void dueNow() {
        sentence("What is due of a phase now is all that is owed if it is broken; otherwise what is open of instalments "
                + "that are due through an earlier day or this one, and lapsed money.");
        LevyPhases x = owing(20000);
        int[] passed = {59, 1, 60, 60, 60, 1};
        int[] due = {0, 5000, 5000, 5000, 5000, 5250};
        for (int i = 0; i < passed.length; i++) {
            passDays(x, passed[i]);
            due("due on day " + x.count(3), x.phase(0, 4), due[i]);
            due("of all phases", x.count(10), due[i]);
            if (i > 0 && i < 4) {
                x.pay(0, 5000);
            }
        }
        due("broken", x.phase(0, 9), 1);
        LevyPhases y = halfExemptBegun(1);
        y.lapse(0, 3);
        due("lapsed money", y.phase(0, 4), 50);
        y.pass(60);
        due("and an instalment", y.phase(0, 4), 1025);
        y.pay(0, 1);
        due("what is open of it", y.phase(0, 4), 1024);
    }

    private static void rowsOfOrders() {
        sentence("A row of orders as a text is one or more orders with \";\" between them:");
        String[] orders = {"a00=7", "b0", "p0:10", "d4"};
        StringBuilder row = new StringBuilder();
        for (int i = 0; i < orders.length; i++) {
            row.append(i == 0 ? "" : ";").append(orders[i]);
            LevyPhases x = having(halfExempt(1), row.toString());
            due("no error in " + row, x.firstError(), row.length());
            due("orders of " + row, x.run(), i + 1);
        }
        String[] none = {"", ";", ";d4", "d4;", "d4;;d4", "d4,d4", "d4d4", "d4:d4"};
        for (String text : none) {
            refused("run of " + text, RANGE, () -> having(halfExempt(1), text), LevyPhases::run);
        }
    }

    private static void fromLeftToRight() {
        sentence("The buffer is read from left to right; a character is a syntax error if no row of orders, of any length, "
                + "begins with the characters before it and this character.");
        String text = "b0;a13=20;p0:305;d17";
        for (int wrong = 0; wrong < text.length(); wrong++) {
            String before = text.substring(0, wrong);
            due("an error behind " + before, having(new LevyPhases(), before + "!" + text).firstError(), wrong);
            due("two errors behind " + before, having(new LevyPhases(), before + "!!").firstError(), wrong);
        }
        LevyPhases x = having(halfExempt(2), "b0;d9;a13=5;b0;d9");
        due("the second b0 ends it", x.run(), 3);
        due("only the first d9", x.count(3), 9);
    }
}
