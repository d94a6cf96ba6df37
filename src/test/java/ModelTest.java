import java.util.Random;

/** Pseudo-random runs of calls, each call on a LevyPhases and on the literal model of the document. */
final class ModelTest extends Checks {
    private static final int RUNS = 1500;
    private static final int CALLS = 512;
    private static final String[] ORDERS = {"a", "b", "p", "d"};

    private final Random random;
    private final String name;
    private final LevyPhases levy = new LevyPhases();
    private final Model model = new Model();
    /** Characters of a text that is being appended. */
    private String text = "";

    private ModelTest(int seed) {
        random = new Random(seed);
        name = "run " + seed + ": ";
    }

    public static void main(String[] args) {
        for (int seed = 0; seed < RUNS; seed++) {
            ModelTest run = new ModelTest(seed);
            for (int i = 0; i < CALLS; i++) {
                run.step(i);
            }
        }
        finish("ModelTest");
    }

    private void step(int i) {
        if (i == CALLS - 1) {
            both("digest()", levy::digest, model::digest);
        } else if (!text.isEmpty()) {
            int code = text.charAt(0);
            text = text.substring(1);
            both("append(" + code + ")", () -> levy.append(code), () -> model.append(code));
        } else if (random.nextInt(100) < 60) {
            change();
        } else {
            ask();
        }
    }

    private void both(String call, Call of, Call due) {
        tell(name + call, answerOf(of), answerOf(due));
    }

    /** Mostly a number from 0 to size - 1, sometimes one beside it. */
    private int near(int size) {
        int chance = random.nextInt(60);
        return chance == 0 ? -1 : chance == 1 ? size : random.nextInt(size);
    }

    private int anyPhase() {
        return near(Math.max(1, model.count(0)));
    }

    private int anyArea() {
        int[] edges = {0, 1, 10, 998, 999, 1000, -1};
        return random.nextInt(4) == 0 ? edges[random.nextInt(edges.length)] : random.nextInt(random.nextBoolean() ? 50 : 1000);
    }

    private int anyMoney() {
        int[] edges = {0, 1, 99999, 100000, -1};
        return random.nextInt(8) == 0 ? edges[random.nextInt(edges.length)] : 1 + random.nextInt(random.nextBoolean() ? 2000 : 40000);
    }

    private int anyDays() {
        int[] edges = {0, 1, 99, 100, -1};
        return random.nextInt(8) == 0 ? edges[random.nextInt(edges.length)] : 1 + random.nextInt(99);
    }

    private void change() {
        int p = anyPhase();
        int u = near(4);
        switch (random.nextInt(15)) {
            case 0: both("addPhase()", levy::addPhase, model::addPhase); break;
            case 1: case 2: changeArea(p, u, anyArea()); break;
            case 3: changeExempt(p, u, anyArea()); break;
            case 4: changeRate(u, anyArea()); break;
            case 5: changeSetting(u); break;
            case 6: both("begin(" + p + ")", () -> levy.begin(p), () -> model.begin(p)); break;
            case 7: pay(p, anyMoney()); break;
            case 8: payTheOpenInstalment(p); break;
            case 9: giveLand(p, anyMoney()); break;
            case 10: both("lapse(" + p + ", " + u + ")", () -> levy.lapse(p, u), () -> model.lapse(p, u)); break;
            case 11: case 12: letPass(anyDays()); break;
            case 13: undoSome(); break;
            default: writeText(); break;
        }
    }

    private void changeArea(int p, int u, int area) {
        both("area(" + p + ", " + u + ", " + area + ")", () -> levy.area(p, u, area), () -> model.area(p, u, area));
    }

    private void changeExempt(int p, int u, int area) {
        both("exempt(" + p + ", " + u + ", " + area + ")",
                () -> levy.exempt(p, u, area), () -> model.exempt(p, u, area));
    }

    private void changeRate(int u, int rate) {
        both("rate(" + u + ", " + rate + ")", () -> levy.rate(u, rate), () -> model.rate(u, rate));
    }

    private void changeSetting(int s) {
        int most = new int[] {0, 121, 51, 3001, 101, 5}[s + 1];
        int value = random.nextInt(10) == 0 ? most - 1 : random.nextInt(most + 2) - 1;
        both("set(" + s + ", " + value + ")", () -> levy.set(s, value), () -> model.set(s, value));
    }

    private void pay(int p, int money) {
        both("pay(" + p + ", " + money + ")", () -> levy.pay(p, money), () -> model.pay(p, money));
    }

    private void giveLand(int p, int value) {
        both("land(" + p + ", " + value + ")", () -> levy.land(p, value), () -> model.land(p, value));
    }

    /** What is exactly enough, or one less or more. */
    private void payTheOpenInstalment(int p) {
        int money = 1;
        for (int k = 3; p >= 0 && p < model.count(0) && k >= 0; k--) {
            int open = model.instalment(p, k, 1);
            money = open > 0 ? open + random.nextInt(3) - 1 : money;
        }
        pay(p, money);
    }

    private void letPass(int days) {
        both("pass(" + days + ")", () -> levy.pass(days), () -> model.pass(days));
    }

    private void undoSome() {
        int times = 1 + random.nextInt(random.nextInt(10) == 0 ? 8 : 2);
        for (int i = 0; i < times; i++) {
            both("undo()", levy::undo, model::undo);
        }
    }

    private void writeText() {
        StringBuilder row = new StringBuilder();
        int orders = 1 + random.nextInt(6);
        for (int i = 0; i < orders; i++) {
            row.append(i == 0 ? "" : ";").append(ORDERS[random.nextInt(4)]);
            int p = random.nextInt(random.nextInt(5) == 0 ? 6 : Math.max(1, model.count(0)));
            switch (row.charAt(row.length() - 1)) {
                case 'a': row.append(p).append(random.nextInt(4)).append('=').append(random.nextInt(random.nextBoolean() ? 1000 : 20)); break;
                case 'b': row.append(p); break;
                case 'p': row.append(p).append(':').append(1 + random.nextInt(random.nextBoolean() ? 99999 : 99)); break;
                default: row.append(1 + random.nextInt(99)); break;
            }
        }
        if (random.nextInt(4) == 0) {
            row.setCharAt(random.nextInt(row.length()), "abpd=:;0123456789x~!".charAt(random.nextInt(20)));
        }
        if (random.nextInt(6) == 0) {
            row.insert(random.nextInt(row.length()), random.nextInt(10));
        }
        text = row.toString();
        both("clearBuffer()", levy::clearBuffer, model::clearBuffer);
        while (!text.isEmpty() && random.nextInt(80) != 0) {
            step(0);
        }
        both("firstError()", levy::firstError, model::firstError);
        both("run()", levy::run, model::run);
    }

    private void ask() {
        int p = anyPhase();
        int u = near(4);
        switch (random.nextInt(14)) {
            case 0: case 1: askPhase(p, near(14)); break;
            case 2: askUse(p, u, near(5)); break;
            case 3: askInstalment(p, u, near(3)); break;
            case 4: askCount(near(16)); break;
            case 5: both("setting(" + u + ")", () -> levy.setting(u), () -> model.setting(u)); break;
            case 6: askWhyNot(near(5), p, u); break;
            case 7: askIfBegun(p, near(3)); break;
            case 8: both("breaksIn(" + p + ")", () -> levy.breaksIn(p), () -> model.breaksIn(p)); break;
            case 9: askSurcharges(near(501)); break;
            case 10: both("mostUrgent()", levy::mostUrgent, model::mostUrgent); break;
            case 11: askDue(p, near(501)); break;
            case 12: both("settledShare()", () -> Double.doubleToLongBits(levy.settledShare()), () -> Double.doubleToLongBits(model.settledShare())); break;
            default: both("digest()", levy::digest, model::digest); break;
        }
    }

    private void askPhase(int p, int what) {
        both("phase(" + p + ", " + what + ")", () -> levy.phase(p, what), () -> model.phase(p, what));
    }

    private void askUse(int p, int u, int what) {
        both("use(" + p + ", " + u + ", " + what + ")", () -> levy.use(p, u, what), () -> model.use(p, u, what));
    }

    private void askInstalment(int p, int k, int what) {
        both("instalment(" + p + ", " + k + ", " + what + ")",
                () -> levy.instalment(p, k, what), () -> model.instalment(p, k, what));
    }

    private void askCount(int what) {
        both("count(" + what + ")", () -> levy.count(what), () -> model.count(what));
    }

    private void askWhyNot(int what, int p, int u) {
        both("whyNot(" + what + ", " + p + ", " + u + ")",
                () -> levy.whyNot(what, p, u), () -> model.whyNot(what, p, u));
    }

    private void askIfBegun(int p, int what) {
        both("ifBegun(" + p + ", " + what + ")", () -> levy.ifBegun(p, what), () -> model.ifBegun(p, what));
    }

    private void askSurcharges(int days) {
        both("surchargesIn(" + days + ")", () -> levy.surchargesIn(days), () -> model.surchargesIn(days));
    }

    private void askDue(int p, int days) {
        both("dueIn(" + p + ", " + days + ")", () -> levy.dueIn(p, days), () -> model.dueIn(p, days));
    }
}
