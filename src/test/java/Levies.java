/** Levies to begin a test with, and what tests do with them. */
abstract class Levies extends Checks {
    static final int NONE = LevyPhases.NONE;

    /** Makes a new levy, the same one each time. */
    interface Making {
        LevyPhases made();
    }

    /** A call on a levy. */
    interface CallOn {
        long answer(LevyPhases x);
    }

    /** A call on a levy, with a value that is tried. */
    interface CallWith {
        long answer(LevyPhases x, int value);
    }

    /** A levy with so many phases; phase i has i + 1 times 10 square metres of homes. */
    static LevyPhases withPhases(int phases) {
        LevyPhases x = new LevyPhases();
        for (int i = 0; i < phases; i++) {
            x.addPhase();
            x.area(i, 0, 10 * (i + 1));
        }
        return x;
    }

    /** A levy whose phase 0 has begun on day 0 with a charge less relief of 100 times area. */
    static LevyPhases begun(int area) {
        LevyPhases x = new LevyPhases();
        x.addPhase();
        x.area(0, 0, area);
        x.begin(0);
        return x;
    }

    /** A levy with a phase that would owe the sum, from 0 to 99999, if it began. */
    static LevyPhases readyFor(int sum) {
        LevyPhases x = new LevyPhases();
        x.addPhase();
        x.rate(1, 1);
        x.area(0, 0, sum / 100);
        x.area(0, 1, sum % 100);
        x.area(0, 3, 1);
        return x;
    }

    /** A levy whose phase 0 has begun on day 0 and owes the sum, from 0 to 99999. */
    static LevyPhases owing(int sum) {
        LevyPhases x = readyFor(sum);
        x.begin(0);
        return x;
    }

    /** A levy with so many phases, each with areas of all uses, half of them exempt; the sheds' rate is 5. */
    static LevyPhases halfExempt(int phases) {
        LevyPhases x = new LevyPhases();
        x.rate(3, 5);
        for (int i = 0; i < phases; i++) {
            x.addPhase();
            for (int use = 0; use < 4; use++) {
                x.area(i, use, 20);
                x.exempt(i, use, 10);
            }
        }
        return x;
    }

    /** The same, and all phases have begun. */
    static LevyPhases halfExemptBegun(int phases) {
        LevyPhases x = halfExempt(phases);
        for (int i = 0; i < phases; i++) {
            x.begin(i);
        }
        return x;
    }

    /** A levy that has the buffer's text. */
    static LevyPhases having(LevyPhases x, String text) {
        write(x, text);
        return x;
    }

    static void passDays(LevyPhases x, int days) {
        for (int left = days; left > 0; left -= 99) {
            x.pass(Math.min(left, 99));
        }
    }

    static void write(LevyPhases x, String text) {
        for (int i = 0; i < text.length(); i++) {
            x.append(text.charAt(i));
        }
    }

    static String repeated(String part, int times) {
        StringBuilder text = new StringBuilder();
        for (int i = 0; i < times; i++) {
            text.append(part);
        }
        return text.toString();
    }

    /** All that shows: the digest has every property; then that of each saved state, so the levy is used up. */
    static String traceOf(LevyPhases x) {
        StringBuilder trace = new StringBuilder();
        trace.append(x.digest()).append(' ').append(x.firstError());
        for (int i = 0; i < 7; i++) {
            trace.append(' ').append(answerOf(x::undo)).append(' ').append(x.digest());
        }
        return trace.toString();
    }

    /** The call throws the exception and changes nothing, neither what shows nor what undo brings back. */
    static void refused(String what, String exception, Making making, CallOn call) {
        LevyPhases x = making.made();
        dueThrown(what, exception, () -> call.answer(x));
        tell(what + " is refused and changes nothing", traceOf(x), traceOf(making.made()));
    }

    static void accepted(String what, Making making, CallOn call) {
        LevyPhases x = making.made();
        String answer = answerOf(() -> call.answer(x));
        dueTrue(what + " is accepted: " + answer, answer.matches("-?[0-9]+"));
    }

    /** Values from least to most are accepted at both ends; those beside them and far from them are refused. */
    static void ends(String what, int least, int most, String exception, Making making, CallWith call) {
        int[] inside = {least, most};
        for (int value : inside) {
            accepted(what + " " + value, making, x -> call.answer(x, value));
        }
        int[] outside = {least - 1, most + 1, Integer.MIN_VALUE, Integer.MAX_VALUE, least + 65536, least - 65536};
        for (int value : outside) {
            if (value < least || value > most) {
                refused(what + " " + value, exception, making, x -> call.answer(x, value));
            }
        }
    }

    /** The charge and its surcharges are always paid, land, relief and owed, together. */
    static void accounts(LevyPhases x) {
        for (int p = 0; p < x.count(0); p++) {
            if (x.phase(p, 0) != NONE) {
                due("money that is all accounted for", x.phase(p, 5) + x.phase(p, 6) + x.phase(p, 2) + x.phase(p, 3),
                        x.phase(p, 1) + x.phase(p, 7));
            }
        }
    }
}
