import java.math.BigInteger;
import java.util.ArrayList;
import java.util.List;

/** The hash once more, from the answers of the other calls. */
final class Hashes extends Levies {
    private Hashes() {
    }

    /** The digest of a levy that has the buffer's text. */
    static void digestDue(String what, String buffer, Making making) {
        due(what, making.made().digest(), wholeHash(valuesOf(making, buffer)).longValue());
    }

    /** The hash of the values as a whole number of any size; a long is what is left of it. */
    static BigInteger wholeHash(List<Long> values) {
        BigInteger hash = BigInteger.valueOf(2591);
        for (long value : values) {
            hash = hash.multiply(BigInteger.valueOf(31)).add(BigInteger.valueOf(value));
        }
        return hash;
    }

    static List<Long> listOf(long... values) {
        List<Long> list = new ArrayList<>();
        for (long value : values) {
            list.add(value);
        }
        return list;
    }

    /** An object is promised to answer 512 calls, so each phase is asked on an object of its own. */
    private static List<Long> valuesOf(Making making, String buffer) {
        LevyPhases x = making.made();
        List<Long> values = new ArrayList<>();
        for (int what = 0; what <= 15; what++) {
            values.add((long) x.count(what));
        }
        for (int setting = 0; setting <= 3; setting++) {
            values.add((long) x.setting(setting));
        }
        for (int p = 0; p < x.count(0); p++) {
            addValuesOf(values, making.made(), p);
        }
        values.add((long) x.surchargesIn(200));
        values.add((long) x.mostUrgent());
        values.add(Double.doubleToLongBits(x.settledShare()));
        values.add((long) buffer.length());
        for (char code : buffer.toCharArray()) {
            values.add((long) code);
        }
        return values;
    }

    private static void addValuesOf(List<Long> values, LevyPhases x, int p) {
        for (int what = 0; what <= 13; what++) {
            values.add((long) x.phase(p, what));
        }
        for (int use = 0; use <= 3; use++) {
            for (int what = 0; what <= 4; what++) {
                values.add((long) x.use(p, use, what));
            }
            values.add((long) x.whyNot(4, p, use));
        }
        for (int k = 0; k <= 3; k++) {
            for (int what = 0; what <= 2; what++) {
                values.add((long) x.instalment(p, k, what));
            }
        }
        for (int what = 0; what <= 3; what++) {
            values.add((long) x.whyNot(what, p, 0));
        }
        for (int what = 0; what <= 2; what++) {
            values.add((long) x.ifBegun(p, what));
        }
        values.add((long) x.breaksIn(p));
        values.add((long) x.dueIn(p, 100));
    }
}
