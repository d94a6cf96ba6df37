/** The buffer, the orders in it sign by sign, and how they are carried out, at each edge that the document names. */
final class TextEdgesTest extends Levies {
    private static final String DIGITS = "0123456789";

    private TextEdgesTest() {
    }

    public static void main(String[] args) {
        emptyBuffer();
        fullBuffer();
        lengths();
        signsOfAreas();
        signsOfBeginnings();
        signsOfMoney();
        signsOfDays();
        leadingZeros();
        tooManyDigits();
        firstOfSeveralErrors();
        rowsOfAnyLength();
        incompleteRows();
        completeRows();
        numbersInOrders();
        runOfAreas();
        runOfBeginnings();
        runOfMoney();
        runOfDays();
        runToTheLastDay();
        runWithoutPhases();
        runIsOneCall();
        runOfAFullBuffer();
        finish("TextEdgesTest", args);
    }

    private static LevyPhases text(String text) {
        return having(new LevyPhases(), text);
    }

    private static void emptyBuffer() {
        sentence("Creates a levy without phases, on the day 0, with an empty buffer.");
        LevyPhases x = new LevyPhases();
        due("firstError of nothing", x.firstError(), 0);
        due("clearBuffer of nothing", x.clearBuffer(), 0);
        refused("run of nothing", RANGE, LevyPhases::new, LevyPhases::run);
        due("the first character", x.append('b'), 1);
        due("clearBuffer of one", x.clearBuffer(), 1);
        due("clearBuffer again", x.clearBuffer(), 0);
        Making cleared = () -> {
            LevyPhases y = having(withPhases(1), "d1");
            y.clearBuffer();
            return y;
        };
        refused("run of what was cleared", RANGE, cleared, LevyPhases::run);
        Making ran = () -> {
            LevyPhases y = having(withPhases(1), "d1");
            y.run();
            return y;
        };
        refused("run of what was run", RANGE, ran, LevyPhases::run);
    }

    private static void fullBuffer() {
        sentence("The buffer has at most 60 characters.");
        LevyPhases x = text(repeated("~", 59));
        due("the 60th character", x.append('!'), 60);
        due("firstError of 60", x.firstError(), 0);
        due("clearBuffer of 60", x.clearBuffer(), 60);
        due("the first character again", x.append('d'), 1);
        due("one is there", x.firstError(), 1);
        refused("the 61st character", STATE, () -> text(repeated("~", 60)), y -> y.append('d'));
        refused("the 61st of orders", STATE, () -> having(withPhases(1), repeated("d1;", 20)), y -> y.append('d'));
    }

    private static void lengths() {
        sentence("Returns the new length of the buffer.");
        LevyPhases x = new LevyPhases();
        for (int i = 1; i <= 60; i++) {
            due("append", x.append(32 + i), i);
        }
        sentence("Returns the length that it had.");
        for (int length = 0; length <= 60; length++) {
            due("clearBuffer of " + length, text(repeated("x", length)).clearBuffer(), length);
            due("firstError of so many", text(repeated("d1;", 20).substring(0, length)).firstError(), length);
        }
    }

    /** Behind the characters before, just the allowed ones go on a row of orders. */
    private static void next(String before, String allowed) {
        String[] rows = {before, "b0;" + before, "d9;a53=0;p1:77;" + before};
        for (String row : rows) {
            for (int code = 33; code <= 126; code++) {
                boolean fine = allowed.indexOf(code) >= 0;
                LevyPhases x = text(row);
                x.append(code);
                int want = row.length() + (fine ? 1 : 0);
                due("firstError of " + row + (char) code, x.firstError(), want);
                write(x, "b0");
                if (!fine) {
                    due("firstError with more behind " + row + (char) code, x.firstError(), want);
                }
            }
        }
    }

    private static void signsOfAreas() {
        sentence("\"a\", the digit of a phase, 0 to 5, the digit of a use, 0 to 3, \"=\", and an area, 0 to 999");
        next("", "abpd");
        next("a", "012345");
        for (int phase = 0; phase < 6; phase++) {
            next("a" + phase, "0123");
        }
        for (int use = 0; use < 4; use++) {
            next("a4" + use, "=");
        }
        next("a13=", DIGITS);
        next("a13=0", ";");
        for (int digit = 1; digit <= 9; digit++) {
            next("a13=" + digit, DIGITS + ";");
            next("a13=" + digit + "0", DIGITS + ";");
            next("a13=" + digit + "00", ";");
            next("a13=" + digit + "99", ";");
        }
    }

    private static void signsOfBeginnings() {
        sentence("\"b\" and the digit of a phase (it begins)");
        next("b", "012345");
        for (int phase = 0; phase < 6; phase++) {
            next("b" + phase, ";");
        }
        next("b0;", "abpd");
    }

    private static void signsOfMoney() {
        sentence("\"p\", the digit of a phase, \":\", and money, 1 to 99999 (it is paid)");
        next("p", "012345");
        for (int phase = 0; phase < 6; phase++) {
            next("p" + phase, ":");
        }
        next("p0:", "123456789");
        for (int digit = 1; digit <= 9; digit++) {
            next("p0:" + digit, DIGITS + ";");
        }
        next("p0:10", DIGITS + ";");
        next("p0:100", DIGITS + ";");
        next("p0:1000", DIGITS + ";");
        next("p0:10000", ";");
        next("p0:99999", ";");
    }

    private static void signsOfDays() {
        sentence("or \"d\" and days, 1 to 99 (they pass)");
        next("d", "123456789");
        for (int digit = 1; digit <= 9; digit++) {
            next("d" + digit, DIGITS + ";");
            next("d" + digit + "0", ";");
            next("d" + digit + "9", ";");
        }
        next("d99;", "abpd");
    }

    private static void error(String text, int want) {
        due("firstError of " + text, text(text).firstError(), want);
    }

    private static void leadingZeros() {
        sentence("Numbers are without leading zeros.");
        error("a00=0", 5);
        error("a00=00", 5);
        error("a00=01", 5);
        error("a00=0;d1", 8);
        error("p0:0", 3);
        error("p0:01", 3);
        error("p0:10", 5);
        error("d0", 1);
        error("d01", 1);
        error("d10", 3);
        String[] texts = {"a00=00", "a00=01", "a00=000", "p0:0", "p0:01", "p0:00", "d0", "d01", "d00"};
        for (String text : texts) {
            refused("run of " + text, RANGE, () -> having(halfExempt(1), text), LevyPhases::run);
        }
    }

    private static void tooManyDigits() {
        sentence("and an area, 0 to 999");
        error("a00=999", 7);
        error("a00=1000", 7);
        error("a00=" + repeated("9", 56), 7);
        sentence("and money, 1 to 99999 (it is paid)");
        error("p0:99999", 8);
        error("p0:100000", 8);
        error("p0:" + repeated("9", 57), 8);
        sentence("or \"d\" and days, 1 to 99 (they pass)");
        error("d99", 3);
        error("d100", 3);
        error("d" + repeated("9", 59), 3);
        error("b00", 2);
        error("a000=1", 3);
        error("p00:1", 2);
        String[] texts = {"a00=1000", "a00=0999", "p0:100000", "p0:4294967297", "d100", "d4294967297", "b00", "a000=1"};
        for (String text : texts) {
            refused("run of " + text, RANGE, () -> having(halfExempt(1), text), LevyPhases::run);
        }
    }

    private static void firstOfSeveralErrors() {
        sentence("Returns the index of the first character that is a syntax error; the length of the buffer if there is none.");
        error("d1;x;y", 3);
        error("d1x;y", 2);
        error("xd1", 0);
        error("d1;d1;d1:", 8);
        error(repeated("d1;", 19) + "d1!", 59);
        error("d" + repeated("!", 59), 1);
        error("B0", 0);
        error("b0;B0", 3);
        error("d1,d2", 2);
        error("a00:5", 3);
        error("p0=5", 2);
    }

    private static void rowsOfAnyLength() {
        sentence("a character is a syntax error if no row of orders, of any length, begins with the characters before it and this character");
        error(repeated("d1;", 20), 60);
        error(repeated("d1;", 19) + "p5:", 60);
        error(repeated("d1;", 19) + "d1a", 59);
        error("p0:99999;" + repeated("d1;", 16) + "a12", 60);
        error("p0:99999;" + repeated("d1;", 16) + "p1;", 59);
    }

    private static void incompleteRows() {
        sentence("Throws IllegalArgumentException if the buffer is not a complete row of orders");
        String[] texts = {"a", "a0", "a00", "a00=", "b", "p", "p0", "p0:", "d", ";", "d1;", "d1;;d1", ";d1", "d1;b",
            "d1;a00=", "d1d1", "d1;p0:", "b0;d", "x", "b0;x", "b6", "a60=1", "a04=1", "p6:1", "=", "b0:1", "d-1", "d+1",
            "B0", "a00=5;", "a0=5", "p:5", "b0;!", "d1;d1;d1;d1;d1;d1;d1;d1;d1;d"};
        for (String text : texts) {
            refused("run of " + text, RANGE, () -> having(halfExempt(1), text), LevyPhases::run);
        }
        refused("run of 60 that go on", RANGE, () -> having(halfExempt(1), repeated("d1;", 20)), LevyPhases::run);
        LevyPhases x = having(halfExempt(1), "d1;d");
        range("run of d1;d", x::run);
        due("no day has passed", x.count(3), 0);
        due("the buffer is as it was", x.firstError(), 4);
        x.append('7');
        due("it can be completed", x.run(), 2);
        due("days", x.count(3), 8);
    }

    private static void completeRows() {
        sentence("Carries out the orders in the buffer as area(), begin(), pay() and pass() do");
        String[] texts = {"a00=0", "a53=999", "b0", "b5", "p0:1", "p5:99999", "d1", "d99", "d9;d10", "a00=0;d1",
            "b3;p3:10;d60;d1"};
        for (String text : texts) {
            LevyPhases x = having(halfExempt(6), text);
            String answer = answerOf(x::run);
            dueTrue("run of " + text + " answered " + answer, answer.matches("[0-9]+"));
            due("it is cleared", x.clearBuffer(), 0);
        }
    }

    private static void numbersInOrders() {
        sentence("and an area, 0 to 999");
        int[] areas = {0, 1, 9, 10, 11, 99, 100, 101, 998, 999};
        for (int area : areas) {
            LevyPhases x = having(withPhases(2), "a12=" + area + ";a10=" + area);
            due("run", x.run(), 2);
            due("the area", x.use(1, 2, 0), area);
            due("the next area", x.use(1, 0, 0), area);
        }
        sentence("and money, 1 to 99999 (it is paid)");
        int[] money = {1, 9, 10, 99, 100, 999, 1000, 9999, 10000, 98765, 99999};
        for (int m : money) {
            LevyPhases x = withPhases(2);
            x.rate(0, 999);
            x.area(1, 0, 999);
            x.begin(1);
            write(x, "p1:" + m);
            due("run", x.run(), 1);
            due("the money", x.phase(1, 5), m);
        }
        sentence("or \"d\" and days, 1 to 99 (they pass)");
        int[] days = {1, 9, 10, 11, 90, 98, 99};
        for (int d : days) {
            LevyPhases x = text("d" + d + ";d" + d);
            due("run", x.run(), 2);
            due("the days", x.count(3), 2 * d);
        }
    }

    /** So many orders of the text are carried out on two phases, of which phase 1 has begun. */
    private static LevyPhases carriedOut(String text, int want) {
        LevyPhases x = halfExempt(2);
        x.begin(1);
        write(x, text);
        due("carried out of " + text, x.run(), want);
        due("cleared by " + text, x.clearBuffer(), 0);
        return x;
    }

    private static void runOfAreas() {
        sentence("one after the other, up to the first one whose method would throw an exception");
        due("an area", carriedOut("a00=7;d1", 2).use(0, 0, 0), 7);
        due("its exempt area becomes at most that", carriedOut("a00=7;d1", 2).use(0, 0, 1), 7);
        due("a begun phase's area", carriedOut("a10=7;d1", 0).use(1, 0, 0), 20);
        due("a phase that is not there", carriedOut("a20=7;d1", 0).count(3), 0);
        due("phase 5 is not there", carriedOut("d2;a53=7;d1", 1).count(3), 2);
        due("an area behind its beginning", carriedOut("b0;a00=7;d1", 1).use(0, 0, 0), 20);
    }

    private static void runOfBeginnings() {
        sentence("one after the other, up to the first one whose method would throw an exception");
        due("a beginning", carriedOut("d3;b0;d1", 3).phase(0, 0), 3);
        due("a begun phase", carriedOut("d3;b1;d1", 1).phase(1, 0), 0);
        due("twice", carriedOut("d3;b0;b0;d1", 2).phase(0, 0), 3);
        due("a phase that is not there", carriedOut("d3;b2;d1", 1).count(3), 3);
        due("without an area", carriedOut("a00=0;a01=0;a02=0;a03=0;b0;d1", 4).phase(0, 0), NONE);
    }

    private static void runOfMoney() {
        sentence("one after the other, up to the first one whose method would throw an exception");
        due("money", carriedOut("p1:5;p1:6", 2).phase(1, 5), 11);
        due("at most what is owed", carriedOut("p1:99999;d1", 2).phase(1, 5), 1950);
        due("nothing is owed", carriedOut("p1:1950;p1:1;d1", 1).phase(1, 5), 1950);
        due("not begun", carriedOut("p0:1;d1", 0).count(3), 0);
        due("begun before", carriedOut("b0;p0:1;d1", 3).phase(0, 5), 1);
        due("a phase that is not there", carriedOut("p2:1;d1", 0).count(3), 0);
        LevyPhases x = begun(10);
        x.set(3, 0);
        write(x, "p0:7;d1");
        due("money needs no room for land", x.run(), 2);
        due("it is paid", x.phase(0, 5), 7);
    }

    private static void runOfDays() {
        sentence("Carries out the orders in the buffer as area(), begin(), pay() and pass() do");
        LevyPhases x = carriedOut("d60;p1:974;d1", 3);
        due("broken by a day of a run", x.phase(1, 9), 1);
        due("its surcharge", x.phase(1, 7), 48);
        LevyPhases y = carriedOut("d60;p1:975;d1", 3);
        due("not broken", y.phase(1, 9), 0);
        due("the next instalment", y.breaksIn(1), 60);
    }

    private static LevyPhases onDay9990(String text) {
        LevyPhases x = withPhases(1);
        passDays(x, 9990);
        write(x, text);
        return x;
    }

    private static void runToTheLastDay() {
        sentence("one after the other, up to the first one whose method would throw an exception");
        LevyPhases x = onDay9990("d9;b0");
        due("to the last day", x.run(), 2);
        due("9999", x.count(3), 9999);
        LevyPhases y = onDay9990("d10;b0");
        due("a day too many", y.run(), 0);
        due("9990", y.count(3), 9990);
        due("it has not begun", y.phase(0, 0), NONE);
        LevyPhases z = onDay9990("d5;d5;b0");
        due("a day too many together", z.run(), 1);
        due("9995", z.count(3), 9995);
        LevyPhases last = onDay9990("d9;d1;b0");
        due("a day behind the last one", last.run(), 1);
        due("still 9999", last.count(3), 9999);
    }

    private static void runWithoutPhases() {
        sentence("Undoable, as one call, also if none is carried out.");
        String[] texts = {"a00=1", "b0", "p0:1", "b0;d1"};
        for (String text : texts) {
            LevyPhases x = text(text);
            due("none is carried out of " + text, x.run(), 0);
            due("it is saved all the same", x.count(15), 1);
            due("cleared", x.clearBuffer(), 0);
            due("undo", x.undo(), 0);
        }
        LevyPhases y = text("d1");
        due("days pass without phases", y.run(), 1);
        due("a day", y.count(3), 1);
    }

    private static void runIsOneCall() {
        sentence("Undoable, as one call, also if none is carried out.");
        LevyPhases x = new LevyPhases();
        x.addPhase();
        x.addPhase();
        long before = x.digest();
        write(x, "a00=10;b0;p0:3;d61;a10=7;b1;p1:1");
        due("seven orders", x.run(), 7);
        due("one is saved", x.count(15), 3);
        due("undo", x.undo(), 2);
        due("all is undone", x.digest(), before);
        write(x, "a00=10;b0;b0;d61");
        due("two orders", x.run(), 2);
        due("one is saved", x.count(15), 3);
        due("undo", x.undo(), 2);
        due("all is undone", x.digest(), before);
    }

    private static void runOfAFullBuffer() {
        sentence("The buffer has at most 60 characters.");
        LevyPhases x = text(repeated("d1;", 18) + "d1;d10");
        due("firstError of 60", x.firstError(), 60);
        due("20 orders of 60 characters", x.run(), 20);
        due("29 days", x.count(3), 29);
        LevyPhases y = withPhases(1);
        write(y, repeated("d1;", 17) + "a00=1;d99");
        due("60 characters", y.firstError(), 60);
        due("a number at the end", y.run(), 19);
        due("its days", y.count(3), 116);
        LevyPhases z = text(repeated("d1;", 19) + "d1");
        due("59 characters", z.run(), 20);
        due("20 days", z.count(3), 20);
    }
}
