import java.util.ArrayDeque;
import java.util.ArrayList;
import java.util.Arrays;
import java.util.List;
import java.util.regex.Matcher;
import java.util.regex.Pattern;

/**
 * The document once more, in the slowest and most literal form: every open sum is kept by itself, days pass one by
 * one, what would be is tried out on a copy, and texts are read by regular expressions.
 */
final class Model {
    static final int NONE = -1;

    private static final String ORDER =
            "(a[0-5][0-3]=(0|[1-9][0-9]{0,2})|b[0-5]|p[0-5]:[1-9][0-9]{0,4}|d[1-9][0-9]?)";
    private static final Pattern ROW = Pattern.compile(ORDER + "(;" + ORDER + ")*");

    /** A phase with each of its open sums. */
    private static final class Stage {
        int began = NONE;
        int[] area = new int[4];
        int[] exempt = new int[4];
        int[] fixedRate = new int[4];
        boolean[] lapsed = new boolean[4];
        int[] sum = new int[0];
        int[] open = new int[0];
        int[] dueDay = new int[0];
        int lapsedOpen;
        int lapsedSoFar;
        int surcharge;
        int surchargeOpen;
        boolean broken;
        int paid;
        int land;

        Stage copy() {
            Stage c = new Stage();
            c.began = began;
            c.area = area.clone();
            c.exempt = exempt.clone();
            c.fixedRate = fixedRate.clone();
            c.lapsed = lapsed.clone();
            c.sum = sum.clone();
            c.open = open.clone();
            c.dueDay = dueDay.clone();
            c.lapsedOpen = lapsedOpen;
            c.lapsedSoFar = lapsedSoFar;
            c.surcharge = surcharge;
            c.surchargeOpen = surchargeOpen;
            c.broken = broken;
            c.paid = paid;
            c.land = land;
            return c;
        }

        int owed() {
            return Arrays.stream(open).sum() + lapsedOpen + surchargeOpen;
        }

        void settle(int amount) {
            int left = amount;
            for (int i = 0; i < open.length; i++) {
                int part = Math.min(left, open[i]);
                open[i] -= part;
                left -= part;
            }
            int part = Math.min(left, lapsedOpen);
            lapsedOpen -= part;
            left -= part;
            surchargeOpen -= left;
        }
    }

    /** All but the buffer and the saved states. */
    private static final class World {
        int day;
        int[] rate = {100, 60, 30, 0};
        int[] setting = {60, 5, 700, 50};
        List<Stage> stages = new ArrayList<>();

        World copy() {
            World c = new World();
            c.day = day;
            c.rate = rate.clone();
            c.setting = setting.clone();
            for (Stage s : stages) {
                c.stages.add(s.copy());
            }
            return c;
        }

        int nextDay() {
            day++;
            int came = 0;
            for (Stage s : stages) {
                if (s.began == NONE || s.broken) {
                    continue;
                }
                boolean late = false;
                for (int i = 0; i < s.open.length; i++) {
                    late |= s.open[i] > 0 && day > s.dueDay[i];
                }
                if (late) {
                    s.broken = true;
                    s.surcharge = s.owed() * setting[1] / 100;
                    s.surchargeOpen = s.surcharge;
                    came += s.surcharge;
                }
            }
            return came;
        }
    }

    private World world = new World();
    private final ArrayDeque<World> saved = new ArrayDeque<>();
    private String buffer = "";

    private void save() {
        saved.addLast(world.copy());
        if (saved.size() > 6) {
            saved.removeFirst();
        }
    }

    private void index(int value, int size) {
        if (value < 0 || value >= size) {
            throw new IndexOutOfBoundsException();
        }
    }

    private void range(int value, int least, int most) {
        if (value < least || value > most) {
            throw new IllegalArgumentException();
        }
    }

    private void state(boolean fine) {
        if (!fine) {
            throw new IllegalStateException();
        }
    }

    private void indexPhase(int phase) {
        index(phase, world.stages.size());
    }

    private int rateOf(Stage s, int use) {
        return s.began == NONE ? world.rate[use] : s.fixedRate[use];
    }

    private int reliefOf(Stage s, int use) {
        return s.lapsed[use] ? 0 : s.exempt[use] * rateOf(s, use);
    }

    private int charge(Stage s) {
        int all = 0;
        for (int u = 0; u < 4; u++) {
            all += s.area[u] * rateOf(s, u);
        }
        return all;
    }

    private int relief(Stage s) {
        int all = 0;
        for (int u = 0; u < 4; u++) {
            all += reliefOf(s, u);
        }
        return all;
    }

    private int landRoom(Stage s) {
        return s.began == NONE ? 0 : Math.max(0, (charge(s) - relief(s)) * world.setting[3] / 100 - s.land);
    }

    private int dueNow(Stage s) {
        if (s.broken) {
            return s.owed();
        }
        int due = s.lapsedOpen;
        for (int i = 0; i < s.open.length; i++) {
            due += s.dueDay[i] <= world.day ? s.open[i] : 0;
        }
        return due;
    }

    int addPhase() {
        state(world.stages.size() < 6);
        save();
        world.stages.add(new Stage());
        return world.stages.size() - 1;
    }

    int area(int phase, int use, int area) {
        indexPhase(phase);
        index(use, 4);
        range(area, 0, 999);
        state(whyNot(0, phase, use) == 0);
        save();
        return doArea(phase, use, area);
    }

    private int doArea(int phase, int use, int area) {
        Stage s = world.stages.get(phase);
        int before = s.area[use];
        s.area[use] = area;
        s.exempt[use] = Math.min(s.exempt[use], area);
        return before;
    }

    int exempt(int phase, int use, int area) {
        indexPhase(phase);
        index(use, 4);
        Stage s = world.stages.get(phase);
        range(area, 0, Math.min(999, s.area[use]));
        state(whyNot(0, phase, use) == 0);
        save();
        int before = s.exempt[use];
        s.exempt[use] = area;
        return before;
    }

    int rate(int use, int rate) {
        index(use, 4);
        range(rate, 0, 999);
        save();
        int before = world.rate[use];
        world.rate[use] = rate;
        return before;
    }

    int set(int setting, int value) {
        index(setting, 4);
        range(value, setting == 0 ? 1 : 0, new int[] {120, 50, 3000, 100}[setting]);
        save();
        int before = world.setting[setting];
        world.setting[setting] = value;
        return before;
    }

    int begin(int phase) {
        indexPhase(phase);
        state(whyNot(1, phase, 0) == 0);
        save();
        return doBegin(phase);
    }

    private int doBegin(int phase) {
        Stage s = world.stages.get(phase);
        s.fixedRate = world.rate.clone();
        s.began = world.day;
        int due = charge(s) - relief(s);
        int n = due < 1000 ? 1 : due < 5000 ? 2 : due < 20000 ? 3 : 4;
        s.sum = new int[n];
        s.dueDay = new int[n];
        for (int i = 0; i < n; i++) {
            s.sum[i] = due / n + (i == n - 1 ? due % n : 0);
            s.dueDay[i] = world.day + (i + 1) * world.setting[0];
        }
        s.open = s.sum.clone();
        return s.owed();
    }

    int pay(int phase, int money) {
        indexPhase(phase);
        range(money, 1, 99999);
        state(whyNot(2, phase, 0) == 0);
        save();
        return doPay(phase, money);
    }

    private int doPay(int phase, int money) {
        Stage s = world.stages.get(phase);
        int taken = Math.min(money, s.owed());
        s.settle(taken);
        s.paid += taken;
        return taken;
    }

    int land(int phase, int value) {
        indexPhase(phase);
        range(value, 1, 99999);
        state(whyNot(3, phase, 0) == 0);
        save();
        Stage s = world.stages.get(phase);
        int taken = Math.min(Math.min(value, s.owed()), landRoom(s));
        s.settle(taken);
        s.land += taken;
        return taken;
    }

    int lapse(int phase, int use) {
        indexPhase(phase);
        index(use, 4);
        state(whyNot(4, phase, use) == 0);
        save();
        Stage s = world.stages.get(phase);
        int was = reliefOf(s, use);
        s.lapsed[use] = true;
        s.lapsedOpen += was;
        s.lapsedSoFar += was;
        return was;
    }

    int pass(int days) {
        range(days, 1, 99);
        state(world.day + days <= 9999);
        save();
        return doPass(days);
    }

    private int doPass(int days) {
        int came = 0;
        for (int i = 0; i < days; i++) {
            came += world.nextDay();
        }
        return came;
    }

    int append(int code) {
        range(code, 33, 126);
        state(buffer.length() < 60);
        buffer += (char) code;
        return buffer.length();
    }

    int clearBuffer() {
        int before = buffer.length();
        buffer = "";
        return before;
    }

    int firstError() {
        for (int i = 0; i < buffer.length(); i++) {
            Matcher m = ROW.matcher(buffer.substring(0, i + 1));
            if (!m.matches() && !m.hitEnd()) {
                return i;
            }
        }
        return buffer.length();
    }

    int run() {
        range(ROW.matcher(buffer).matches() ? 0 : 1, 0, 0);
        save();
        int done = 0;
        for (String order : buffer.split(";")) {
            if (!carryOut(order)) {
                break;
            }
            done++;
        }
        buffer = "";
        return done;
    }

    private boolean carryOut(String order) {
        if (order.charAt(0) == 'd') {
            int days = Integer.parseInt(order.substring(1));
            if (world.day + days > 9999) {
                return false;
            }
            doPass(days);
            return true;
        }
        int phase = order.charAt(1) - '0';
        if (phase >= world.stages.size() || whyNot("abp".indexOf(order.charAt(0)), phase, 0) != 0) {
            return false;
        }
        switch (order.charAt(0)) {
            case 'a':
                doArea(phase, order.charAt(2) - '0', Integer.parseInt(order.substring(4)));
                return true;
            case 'b':
                doBegin(phase);
                return true;
            default:
                doPay(phase, Integer.parseInt(order.substring(3)));
                return true;
        }
    }

    int undo() {
        state(!saved.isEmpty());
        world = saved.removeLast();
        return saved.size();
    }

    int phase(int phase, int what) {
        indexPhase(phase);
        range(what, 0, 13);
        Stage s = world.stages.get(phase);
        int whole = 0;
        for (int open : s.open) {
            whole += open == 0 ? 1 : 0;
        }
        int[] properties = {s.began, charge(s), relief(s), s.owed(), dueNow(s), s.paid, s.land, s.surcharge,
            s.lapsedSoFar, s.broken ? 1 : 0, s.sum.length, whole, Arrays.stream(s.area).sum(), landRoom(s)};
        return properties[what];
    }

    int use(int phase, int use, int what) {
        indexPhase(phase);
        index(use, 4);
        range(what, 0, 4);
        Stage s = world.stages.get(phase);
        return new int[] {s.area[use], s.exempt[use], rateOf(s, use), s.area[use] * rateOf(s, use),
            reliefOf(s, use)}[what];
    }

    int instalment(int phase, int k, int what) {
        indexPhase(phase);
        range(k, 0, 3);
        range(what, 0, 2);
        Stage s = world.stages.get(phase);
        return k >= s.sum.length ? NONE : new int[] {s.sum[k], s.open[k], s.dueDay[k]}[what];
    }

    int count(int what) {
        range(what, 0, 15);
        int[] numbers = new int[16];
        numbers[0] = world.stages.size();
        numbers[3] = world.day;
        System.arraycopy(world.rate, 0, numbers, 11, 4);
        numbers[15] = saved.size();
        for (Stage s : world.stages) {
            if (s.began != NONE) {
                int[] own = {0, 1, s.broken ? 1 : 0, 0, charge(s), relief(s), s.paid, s.land, s.surcharge, s.owed(),
                    dueNow(s)};
                for (int i = 0; i < own.length; i++) {
                    numbers[i] += own[i];
                }
            }
        }
        return numbers[what];
    }

    int setting(int setting) {
        index(setting, 4);
        return world.setting[setting];
    }

    int whyNot(int what, int phase, int use) {
        indexPhase(phase);
        index(use, 4);
        range(what, 0, 4);
        Stage s = world.stages.get(phase);
        boolean begun = s.began != NONE;
        if (begun && what <= 1) {
            return 1;
        }
        if (!begun && what >= 2) {
            return 2;
        }
        if (what == 1 && Arrays.stream(s.area).sum() == 0) {
            return 3;
        }
        if ((what == 2 || what == 3) && s.owed() == 0) {
            return 4;
        }
        if (what == 3 && landRoom(s) == 0) {
            return 5;
        }
        if (what == 4 && (reliefOf(s, use) == 0 || world.day > s.began + world.setting[2])) {
            return 6;
        }
        return 0;
    }

    /** Runs what on a copy of the world, and puts this world back. */
    private int tried(java.util.function.IntSupplier what) {
        World before = world;
        world = world.copy();
        int answer = what.getAsInt();
        world = before;
        return answer;
    }

    int ifBegun(int phase, int what) {
        indexPhase(phase);
        range(what, 0, 2);
        if (whyNot(1, phase, 0) != 0) {
            return NONE;
        }
        return tried(() -> {
            int owed = doBegin(phase);
            int[] sums = world.stages.get(phase).sum;
            return new int[] {owed, sums.length, sums[sums.length - 1]}[what];
        });
    }

    int breaksIn(int phase) {
        indexPhase(phase);
        Stage s = world.stages.get(phase);
        if (s.began == NONE || s.broken) {
            return NONE;
        }
        return tried(() -> {
            for (int days = 1; days <= 500; days++) {
                world.nextDay();
                if (world.stages.get(phase).broken) {
                    return days;
                }
            }
            return NONE;
        });
    }

    int surchargesIn(int days) {
        range(days, 0, 500);
        return tried(() -> doPass(days));
    }

    int mostUrgent() {
        int best = NONE;
        for (int i = 0; i < world.stages.size(); i++) {
            int in = breaksIn(i);
            if (in == NONE) {
                continue;
            }
            int bestIn = best == NONE ? Integer.MAX_VALUE : breaksIn(best);
            if (in < bestIn || in == bestIn && phase(i, 3) > phase(best, 3)) {
                best = i;
            }
        }
        return best;
    }

    int dueIn(int phase, int days) {
        indexPhase(phase);
        range(days, 0, 500);
        return tried(() -> {
            doPass(days);
            return phase(phase, 4);
        });
    }

    double settledShare() {
        double settled = count(6) + count(7);
        int all = count(6) + count(7) + count(9);
        return all == 0 ? 1.0 : settled / all;
    }

    long digest() {
        List<Long> values = new ArrayList<>();
        for (int i = 0; i <= 15; i++) {
            values.add((long) count(i));
        }
        for (int setting : world.setting) {
            values.add((long) setting);
        }
        for (int p = 0; p < world.stages.size(); p++) {
            addPhaseValues(values, p);
        }
        values.add((long) surchargesIn(200));
        values.add((long) mostUrgent());
        values.add(Double.doubleToLongBits(settledShare()));
        values.add((long) buffer.length());
        for (char c : buffer.toCharArray()) {
            values.add((long) c);
        }
        long hash = 2591;
        for (long value : values) {
            hash = 31 * hash + value;
        }
        return hash;
    }

    private void addPhaseValues(List<Long> values, int p) {
        for (int what = 0; what <= 13; what++) {
            values.add((long) phase(p, what));
        }
        for (int u = 0; u < 4; u++) {
            for (int what = 0; what <= 4; what++) {
                values.add((long) use(p, u, what));
            }
            values.add((long) whyNot(4, p, u));
        }
        for (int k = 0; k < 4; k++) {
            for (int what = 0; what <= 2; what++) {
                values.add((long) instalment(p, k, what));
            }
        }
        for (int what = 0; what <= 3; what++) {
            values.add((long) whyNot(what, p, 0));
        }
        for (int what = 0; what <= 2; what++) {
            values.add((long) ifBegun(p, what));
        }
        values.add((long) breaksIn(p));
        values.add((long) dueIn(p, 100));
    }
}
