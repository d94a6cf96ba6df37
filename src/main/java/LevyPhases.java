/** A levy on new buildings, charged by area and use, phase by phase; the document's promises are its contract. */
public final class LevyPhases {
    public static final int NONE = -1;

    private static final int USES = 4;
    private static final int SETTINGS = 4;
    private static final int MOST_PHASES = 6;
    private static final int MOST_INSTALMENTS = 4;
    private static final int MOST_SAVED = 6;
    private static final int MOST_AREA = 999;
    private static final int MOST_RATE = 999;
    private static final int MOST_MONEY = 99999;
    private static final int MOST_DAYS = 99;
    private static final int MOST_DAYS_AHEAD = 500;
    private static final int LAST_DAY = 9999;
    private static final int MOST_CODES = 60;
    private static final int LEAST_CODE = 33;
    private static final int MOST_CODE = 126;

    private static final int DAYS_BETWEEN_INSTALMENTS = 0;
    private static final int SURCHARGE_PERCENT = 1;
    private static final int DAYS_TO_LAPSE = 2;
    private static final int LAND_PERCENT = 3;

    private static final int[] FIRST_RATES = {100, 60, 30, 0};
    private static final int[] FIRST_SETTINGS = {60, 5, 700, 50};
    private static final int[] LEAST_SETTINGS = {1, 0, 0, 0};
    private static final int[] MOST_SETTINGS = {120, 50, 3000, 100};

    private static final int AREA_CHANGE = 0;
    private static final int BEGINNING = 1;
    private static final int PAYMENT = 2;
    private static final int LAND = 3;
    private static final int LAPSE = 4;

    private static final int HAS_BEGUN = 1;
    private static final int HAS_NOT_BEGUN = 2;
    private static final int HAS_NO_AREA = 3;
    private static final int OWES_NOTHING = 4;
    private static final int NO_ROOM_FOR_LAND = 5;
    private static final int NO_RELIEF_OR_TOO_LATE = 6;

    private static final int PHASE_PROPERTIES = 14;
    private static final int USE_PROPERTIES = 5;
    private static final int INSTALMENT_PROPERTIES = 3;
    private static final int NUMBERS = 16;
    private static final int BEGINNING_PROPERTIES = 3;

    private final Levy levy;
    private final Levy[] saved;
    private int savedCount;
    private int nextSaved;
    private final Orders orders;

    public LevyPhases() {
        levy = new Levy();
        saved = new Levy[MOST_SAVED];
        for (int i = 0; i < MOST_SAVED; i++) {
            saved[i] = new Levy();
        }
        savedCount = 0;
        nextSaved = 0;
        orders = new Orders();
    }

    // ---- phases, areas, rates

    public int addPhase() throws IllegalStateException {
        if (levy.phaseCount >= MOST_PHASES) {
            throw new IllegalStateException("there are 6 phases");
        }
        saveState();
        return levy.appendPhase();
    }

    public int area(int phase, int use, int area)
            throws IndexOutOfBoundsException, IllegalArgumentException, IllegalStateException {
        demandPhase(phase);
        demandUse(use);
        demandRange(area, 0, MOST_AREA);
        demandNoReason(AREA_CHANGE, phase, use);
        saveState();
        return levy.phases[phase].changeArea(use, area);
    }

    public int exempt(int phase, int use, int area)
            throws IndexOutOfBoundsException, IllegalArgumentException, IllegalStateException {
        demandPhase(phase);
        demandUse(use);
        demandRange(area, 0, levy.phases[phase].areas[use]);
        demandNoReason(AREA_CHANGE, phase, use);
        saveState();
        return levy.phases[phase].changeExemptArea(use, area);
    }

    public int rate(int use, int rate) throws IndexOutOfBoundsException, IllegalArgumentException {
        demandUse(use);
        demandRange(rate, 0, MOST_RATE);
        saveState();
        return levy.changeRate(use, rate);
    }

    public int set(int setting, int value) throws IndexOutOfBoundsException, IllegalArgumentException {
        demandSetting(setting);
        demandRange(value, LEAST_SETTINGS[setting], MOST_SETTINGS[setting]);
        saveState();
        int previous = levy.settings[setting];
        levy.settings[setting] = value;
        return previous;
    }

    // ---- money

    public int begin(int phase) throws IndexOutOfBoundsException, IllegalStateException {
        demandPhase(phase);
        demandNoReason(BEGINNING, phase, 0);
        saveState();
        return levy.beginPhase(phase);
    }

    public int pay(int phase, int money)
            throws IndexOutOfBoundsException, IllegalArgumentException, IllegalStateException {
        demandPhase(phase);
        demandRange(money, 1, MOST_MONEY);
        demandNoReason(PAYMENT, phase, 0);
        saveState();
        return levy.phases[phase].takeMoney(money);
    }

    public int land(int phase, int value)
            throws IndexOutOfBoundsException, IllegalArgumentException, IllegalStateException {
        demandPhase(phase);
        demandRange(value, 1, MOST_MONEY);
        demandNoReason(LAND, phase, 0);
        saveState();
        return levy.phases[phase].takeLand(value, levy.settings[LAND_PERCENT]);
    }

    public int lapse(int phase, int use) throws IndexOutOfBoundsException, IllegalStateException {
        demandPhase(phase);
        demandUse(use);
        demandNoReason(LAPSE, phase, use);
        saveState();
        return levy.phases[phase].endRelief(use);
    }

    public int pass(int days) throws IllegalArgumentException, IllegalStateException {
        demandRange(days, 1, MOST_DAYS);
        if (!levy.hasDaysLeft(days)) {
            throw new IllegalStateException("the number of the day would be above 9999");
        }
        saveState();
        return levy.letDaysPass(days);
    }

    // ---- texts

    public int append(int code) throws IllegalArgumentException, IllegalStateException {
        demandRange(code, LEAST_CODE, MOST_CODE);
        if (orders.length >= MOST_CODES) {
            throw new IllegalStateException("the buffer has 60 characters");
        }
        return orders.appendCode(code);
    }

    public int clearBuffer() {
        int previous = orders.length;
        orders.length = 0;
        return previous;
    }

    public int firstError() {
        orders.readRow();
        return orders.at;
    }

    public int run() throws IllegalArgumentException {
        if (!orders.readRow()) {
            throw new IllegalArgumentException("the buffer is not a complete row of orders");
        }
        saveState();
        orders.rewind();
        int done = 0;
        while (done < MOST_CODES && orders.readNextOrder() && carryOutOrder()) {
            done++;
        }
        orders.length = 0;
        return done;
    }

    public int undo() throws IllegalStateException {
        if (savedCount == 0) {
            throw new IllegalStateException("there is no saved state");
        }
        nextSaved--;
        if (nextSaved < 0 || nextSaved >= MOST_SAVED) {
            nextSaved = MOST_SAVED - 1;
        }
        savedCount--;
        levy.copyFrom(saved[nextSaved]);
        return savedCount;
    }

    // ---- what there is

    public int phase(int phase, int what) throws IndexOutOfBoundsException, IllegalArgumentException {
        demandPhase(phase);
        demandRange(what, 0, PHASE_PROPERTIES - 1);
        Phase asked = levy.phases[phase];
        switch (what) {
            case 0: return asked.firstDay;
            case 1: return asked.charge();
            case 2: return asked.relief();
            case 3: return asked.owed();
            case 4: return asked.dueOn(levy.day);
            case 5: return asked.paid;
            case 6: return asked.landTaken;
            case 7: return asked.surcharge;
            case 8: return asked.lapsedSoFar();
            case 9: return asked.broken ? 1 : 0;
            case 10: return asked.instalments;
            case 11: return asked.instalmentsPaidWhole();
            case 12: return asked.areaOfAllUses();
            default: return asked.roomForLand(levy.settings[LAND_PERCENT]);
        }
    }

    public int use(int phase, int use, int what) throws IndexOutOfBoundsException, IllegalArgumentException {
        demandPhase(phase);
        demandUse(use);
        demandRange(what, 0, USE_PROPERTIES - 1);
        Phase asked = levy.phases[phase];
        switch (what) {
            case 0: return asked.areas[use];
            case 1: return asked.exemptAreas[use];
            case 2: return asked.rates[use];
            case 3: return asked.chargeOfUse(use);
            default: return asked.reliefOfUse(use);
        }
    }

    public int instalment(int phase, int k, int what) throws IndexOutOfBoundsException, IllegalArgumentException {
        demandPhase(phase);
        demandRange(k, 0, MOST_INSTALMENTS - 1);
        demandRange(what, 0, INSTALMENT_PROPERTIES - 1);
        Phase asked = levy.phases[phase];
        if (k >= asked.instalments) {
            return NONE;
        }
        switch (what) {
            case 0: return asked.instalmentSums[k];
            case 1: return asked.openSums[k];
            default: return asked.lastDayOfInstalment(k);
        }
    }

    public int count(int what) throws IllegalArgumentException {
        demandRange(what, 0, NUMBERS - 1);
        switch (what) {
            case 0: return levy.phaseCount;
            case 3: return levy.day;
            case 11: return levy.rates[0];
            case 12: return levy.rates[1];
            case 13: return levy.rates[2];
            case 14: return levy.rates[3];
            case 15: return savedCount;
            default: return levy.sumOverBegunPhases(what);
        }
    }

    public int setting(int setting) throws IndexOutOfBoundsException {
        demandSetting(setting);
        return levy.settings[setting];
    }

    // ---- what would be; nothing is changed, and the limit of days does not matter

    public int whyNot(int what, int phase, int use) throws IndexOutOfBoundsException, IllegalArgumentException {
        demandPhase(phase);
        demandUse(use);
        demandRange(what, AREA_CHANGE, LAPSE);
        return levy.reasonAgainst(what, phase, use);
    }

    public int ifBegun(int phase, int what) throws IndexOutOfBoundsException, IllegalArgumentException {
        demandPhase(phase);
        demandRange(what, 0, BEGINNING_PROPERTIES - 1);
        if (levy.reasonAgainst(BEGINNING, phase, 0) != 0) {
            return NONE;
        }
        int sum = levy.phases[phase].charge() - levy.phases[phase].relief();
        int instalments = instalmentsFor(sum);
        switch (what) {
            case 0: return sum;
            case 1: return instalments;
            default: return partOf(sum, instalments, instalments - 1);
        }
    }

    public int breaksIn(int phase) throws IndexOutOfBoundsException {
        demandPhase(phase);
        return levy.daysToBreak(phase);
    }

    public int surchargesIn(int days) throws IllegalArgumentException {
        demandRange(days, 0, MOST_DAYS_AHEAD);
        int sum = 0;
        for (int i = 0; i < levy.phaseCount && i < MOST_PHASES; i++) {
            sum += levy.surchargeWithin(i, days);
        }
        return sum;
    }

    public int mostUrgent() {
        int found = NONE;
        int foundDays = 0;
        int foundOwed = 0;
        for (int i = 0; i < levy.phaseCount && i < MOST_PHASES; i++) {
            int days = levy.daysToBreak(i);
            int owed = levy.phases[i].owed();
            boolean moreUrgent = found == NONE || days < foundDays || days == foundDays && owed > foundOwed;
            if (days != NONE && moreUrgent) {
                found = i;
                foundDays = days;
                foundOwed = owed;
            }
        }
        return found;
    }

    public int dueIn(int phase, int days) throws IndexOutOfBoundsException, IllegalArgumentException {
        demandPhase(phase);
        demandRange(days, 0, MOST_DAYS_AHEAD);
        if (levy.breaksWithin(phase, days)) {
            return levy.phases[phase].owed() + levy.surchargeWithin(phase, days);
        }
        return levy.phases[phase].dueOn(levy.day + days);
    }

    public double settledShare() {
        int settled = levy.sumOverBegunPhases(6) + levy.sumOverBegunPhases(7);
        int all = settled + levy.sumOverBegunPhases(9);
        return all == 0 ? 1.0 : (double) settled / (double) all;
    }

    public long digest() {
        long hash = 2591L;
        for (int i = 0; i < NUMBERS; i++) {
            hash = 31L * hash + count(i);
        }
        for (int i = 0; i < SETTINGS; i++) {
            hash = 31L * hash + levy.settings[i];
        }
        for (int i = 0; i < levy.phaseCount && i < MOST_PHASES; i++) {
            hash = hashOfPhase(hash, i);
        }
        hash = 31L * hash + surchargesIn(200);
        hash = 31L * hash + mostUrgent();
        hash = 31L * hash + bitsOfShare(settledShare());
        hash = 31L * hash + orders.length;
        for (int i = 0; i < orders.length && i < MOST_CODES; i++) {
            hash = 31L * hash + orders.codes[i];
        }
        return hash;
    }

    private long hashOfPhase(long before, int phase) {
        long hash = before;
        for (int what = 0; what < PHASE_PROPERTIES; what++) {
            hash = 31L * hash + phase(phase, what);
        }
        for (int use = 0; use < USES; use++) {
            for (int what = 0; what < USE_PROPERTIES; what++) {
                hash = 31L * hash + use(phase, use, what);
            }
            hash = 31L * hash + whyNot(LAPSE, phase, use);
        }
        for (int k = 0; k < MOST_INSTALMENTS; k++) {
            for (int what = 0; what < INSTALMENT_PROPERTIES; what++) {
                hash = 31L * hash + instalment(phase, k, what);
            }
        }
        for (int what = AREA_CHANGE; what <= LAND; what++) {
            hash = 31L * hash + whyNot(what, phase, 0);
        }
        for (int what = 0; what < BEGINNING_PROPERTIES; what++) {
            hash = 31L * hash + ifBegun(phase, what);
        }
        hash = 31L * hash + breaksIn(phase);
        return 31L * hash + dueIn(phase, 100);
    }

    /** The bits of a double from 0.0 to 1.0; the language rules leave no library call for them. */
    private static long bitsOfShare(double share) {
        if (share <= 0.0) {
            return 0L;
        }
        double scaled = share;
        long exponent = 1023L;
        while (scaled < 1.0 && exponent > 1L) {
            scaled = scaled * 2.0;
            exponent--;
        }
        long fraction = (long) ((scaled - 1.0) * 4503599627370496.0);
        return (exponent << 52) | fraction;
    }

    private void saveState() {
        if (nextSaved < 0 || nextSaved >= MOST_SAVED) {
            nextSaved = 0;
        }
        saved[nextSaved].copyFrom(levy);
        nextSaved++;
        if (savedCount < MOST_SAVED) {
            savedCount++;
        }
    }

    /** False, and nothing is changed, if the method of the order that was read last would throw. */
    private boolean carryOutOrder() {
        int phase = orders.phase;
        switch (orders.kind) {
            case 'a':
                if (!levy.allows(AREA_CHANGE, phase)) {
                    return false;
                }
                levy.phases[phase].changeArea(orders.use, orders.number);
                return true;
            case 'b':
                if (!levy.allows(BEGINNING, phase)) {
                    return false;
                }
                levy.beginPhase(phase);
                return true;
            case 'p':
                if (!levy.allows(PAYMENT, phase)) {
                    return false;
                }
                levy.phases[phase].takeMoney(orders.number);
                return true;
            default:
                if (!levy.hasDaysLeft(orders.number)) {
                    return false;
                }
                levy.letDaysPass(orders.number);
                return true;
        }
    }

    private void demandPhase(int phase) {
        if (!levy.hasPhase(phase)) {
            throw new IndexOutOfBoundsException("no such phase");
        }
    }

    private void demandNoReason(int what, int phase, int use) {
        if (levy.reasonAgainst(what, phase, use) != 0) {
            throw new IllegalStateException("there is a reason against it");
        }
    }

    private static void demandUse(int use) {
        if (use < 0 || use >= USES) {
            throw new IndexOutOfBoundsException("no such use");
        }
    }

    private static void demandSetting(int setting) {
        if (setting < 0 || setting >= SETTINGS) {
            throw new IndexOutOfBoundsException("no such setting");
        }
    }

    private static void demandRange(int value, int least, int most) {
        if (value < least || value > most) {
            throw new IllegalArgumentException("out of range");
        }
    }

    private static int instalmentsFor(int sum) {
        if (sum < 1000) {
            return 1;
        }
        if (sum < 5000) {
            return 2;
        }
        return sum < 20000 ? 3 : 4;
    }

    /** The part k of a sum in equal parts, of which the last one has the rest, too; 0 if there is no such part. */
    private static int partOf(int sum, int parts, int k) {
        if (k < 0 || k >= parts) {
            return 0;
        }
        int part = sum / parts;
        return k == parts - 1 ? sum - k * part : part;
    }

    private static int percentOf(int percent, int sum) {
        return sum * percent / 100;
    }

    /** All that undo restores. */
    private static final class Levy {
        int day;
        int phaseCount;
        final int[] rates;
        final int[] settings;
        final Phase[] phases;

        Levy() {
            day = 0;
            phaseCount = 0;
            rates = FIRST_RATES.clone();
            settings = FIRST_SETTINGS.clone();
            phases = new Phase[MOST_PHASES];
            for (int i = 0; i < MOST_PHASES; i++) {
                phases[i] = new Phase();
            }
        }

        void copyFrom(Levy other) {
            day = other.day;
            phaseCount = other.phaseCount;
            for (int i = 0; i < USES; i++) {
                rates[i] = other.rates[i];
            }
            for (int i = 0; i < SETTINGS; i++) {
                settings[i] = other.settings[i];
            }
            // The rows of phases that have not come, too: undo leaves them as new as they were.
            for (int i = 0; i < MOST_PHASES; i++) {
                phases[i].copyFrom(other.phases[i]);
            }
        }

        boolean hasPhase(int phase) {
            return phase >= 0 && phase < phaseCount && phase < MOST_PHASES;
        }

        /** The number of the new phase; the caller has seen that there is room for it. */
        int appendPhase() {
            int added = phaseCount;
            if (added < MOST_PHASES) {
                for (int i = 0; i < USES; i++) {
                    phases[added].rates[i] = rates[i];
                }
                phaseCount++;
            }
            return added;
        }

        int changeRate(int use, int rate) {
            int previous = rates[use];
            rates[use] = rate;
            for (int i = 0; i < phaseCount && i < MOST_PHASES; i++) {
                if (!phases[i].hasBegun()) {
                    phases[i].rates[use] = rate;
                }
            }
            return previous;
        }

        int beginPhase(int phase) {
            return phases[phase].startOn(day, settings[DAYS_BETWEEN_INSTALMENTS]);
        }

        boolean hasDaysLeft(int days) {
            return days <= LAST_DAY - day;
        }

        int letDaysPass(int days) {
            int sum = 0;
            for (int i = 0; i < phaseCount && i < MOST_PHASES; i++) {
                if (breaksWithin(i, days)) {
                    int surcharge = surchargeWithin(i, days);
                    phases[i].broken = true;
                    phases[i].surcharge = surcharge;
                    sum += surcharge;
                }
            }
            day += days;
            return sum;
        }

        int daysToBreak(int phase) {
            int dayOfBreak = phases[phase].dayOfBreak();
            return dayOfBreak == NONE ? NONE : dayOfBreak - day;
        }

        boolean breaksWithin(int phase, int days) {
            int dayOfBreak = phases[phase].dayOfBreak();
            return dayOfBreak != NONE && dayOfBreak - day <= days;
        }

        /** What is owed does not change by days alone before the break, so today's answer is that day's. */
        int surchargeWithin(int phase, int days) {
            return breaksWithin(phase, days) ? percentOf(settings[SURCHARGE_PERCENT], phases[phase].owed()) : 0;
        }

        boolean allows(int what, int phase) {
            return hasPhase(phase) && reasonAgainst(what, phase, 0) == 0;
        }

        /** The first reason that applies, 0 if none does. */
        int reasonAgainst(int what, int phase, int use) {
            Phase asked = phases[phase];
            boolean beforeBeginning = what == AREA_CHANGE || what == BEGINNING;
            if (beforeBeginning && asked.hasBegun()) {
                return HAS_BEGUN;
            }
            if (!beforeBeginning && !asked.hasBegun()) {
                return HAS_NOT_BEGUN;
            }
            if (what == BEGINNING && asked.areaOfAllUses() == 0) {
                return HAS_NO_AREA;
            }
            if ((what == PAYMENT || what == LAND) && asked.owed() == 0) {
                return OWES_NOTHING;
            }
            if (what == LAND && asked.roomForLand(settings[LAND_PERCENT]) == 0) {
                return NO_ROOM_FOR_LAND;
            }
            boolean tooLate = day > asked.firstDay + settings[DAYS_TO_LAPSE];
            return what == LAPSE && (tooLate || asked.reliefOfUse(use) == 0) ? NO_RELIEF_OR_TOO_LATE : 0;
        }

        int sumOverBegunPhases(int what) {
            int sum = 0;
            for (int i = 0; i < phaseCount && i < MOST_PHASES; i++) {
                if (phases[i].hasBegun()) {
                    sum += numberOf(phases[i], what);
                }
            }
            return sum;
        }

        /** What a phase that has begun adds to the number of count(what). */
        private int numberOf(Phase asked, int what) {
            switch (what) {
                case 1: return 1;
                case 2: return asked.broken ? 1 : 0;
                case 4: return asked.charge();
                case 5: return asked.relief();
                case 6: return asked.paid;
                case 7: return asked.landTaken;
                case 8: return asked.surcharge;
                case 9: return asked.owed();
                default: return asked.dueOn(day);
            }
        }
    }

    /**
     * One phase. Of instalments it keeps what is open; what is open of lapsed money and of surcharges follows from
     * what is owed, as lapsed money is due at once, and everything once the phase is broken.
     */
    private static final class Phase {
        final int[] areas;
        final int[] exemptAreas;
        /** Today's rates as long as the phase has not begun, and the fixed ones then. */
        final int[] rates;
        final int[] lapsedMoney;
        final int[] instalmentSums;
        final int[] openSums;
        int firstDay;
        int daysBetween;
        int instalments;
        int paid;
        int landTaken;
        int surcharge;
        boolean broken;

        Phase() {
            areas = new int[USES];
            exemptAreas = new int[USES];
            rates = new int[USES];
            lapsedMoney = new int[USES];
            instalmentSums = new int[MOST_INSTALMENTS];
            openSums = new int[MOST_INSTALMENTS];
            firstDay = NONE;
        }

        void copyFrom(Phase other) {
            for (int i = 0; i < USES; i++) {
                areas[i] = other.areas[i];
                exemptAreas[i] = other.exemptAreas[i];
                rates[i] = other.rates[i];
                lapsedMoney[i] = other.lapsedMoney[i];
            }
            for (int k = 0; k < MOST_INSTALMENTS; k++) {
                instalmentSums[k] = other.instalmentSums[k];
                openSums[k] = other.openSums[k];
            }
            firstDay = other.firstDay;
            daysBetween = other.daysBetween;
            instalments = other.instalments;
            paid = other.paid;
            landTaken = other.landTaken;
            surcharge = other.surcharge;
            broken = other.broken;
        }

        int changeArea(int use, int area) {
            int previous = areas[use];
            areas[use] = area;
            exemptAreas[use] = Math.min(exemptAreas[use], area);
            return previous;
        }

        int changeExemptArea(int use, int area) {
            int previous = exemptAreas[use];
            exemptAreas[use] = area;
            return previous;
        }

        int startOn(int day, int daysBetweenInstalments) {
            firstDay = day;
            daysBetween = daysBetweenInstalments;
            int sum = charge() - relief();
            instalments = instalmentsFor(sum);
            for (int k = 0; k < instalments && k < MOST_INSTALMENTS; k++) {
                instalmentSums[k] = partOf(sum, instalments, k);
                openSums[k] = instalmentSums[k];
            }
            return sum;
        }

        int takeMoney(int money) {
            int taken = Math.min(money, owed());
            paid += taken;
            settle(taken);
            return taken;
        }

        int takeLand(int value, int landPercent) {
            int taken = Math.min(value, Math.min(owed(), roomForLand(landPercent)));
            landTaken += taken;
            settle(taken);
            return taken;
        }

        private void settle(int amount) {
            int left = amount;
            for (int k = 0; k < instalments && k < MOST_INSTALMENTS; k++) {
                int part = Math.min(left, openSums[k]);
                openSums[k] -= part;
                left -= part;
            }
        }

        int endRelief(int use) {
            int ended = reliefOfUse(use);
            lapsedMoney[use] += ended;
            return ended;
        }

        boolean hasBegun() {
            return firstDay != NONE;
        }

        int chargeOfUse(int use) {
            return areas[use] * rates[use];
        }

        int reliefOfUse(int use) {
            return exemptAreas[use] * rates[use] - lapsedMoney[use];
        }

        int charge() {
            int sum = 0;
            for (int i = 0; i < USES; i++) {
                sum += areas[i] * rates[i];
            }
            return sum;
        }

        int relief() {
            int sum = 0;
            for (int i = 0; i < USES; i++) {
                sum += exemptAreas[i] * rates[i] - lapsedMoney[i];
            }
            return sum;
        }

        int lapsedSoFar() {
            int sum = 0;
            for (int i = 0; i < USES; i++) {
                sum += lapsedMoney[i];
            }
            return sum;
        }

        int areaOfAllUses() {
            int sum = 0;
            for (int i = 0; i < USES; i++) {
                sum += areas[i];
            }
            return sum;
        }

        int owed() {
            return hasBegun() ? charge() - relief() + surcharge - paid - landTaken : 0;
        }

        int roomForLand(int landPercent) {
            return hasBegun() ? Math.max(0, percentOf(landPercent, charge() - relief()) - landTaken) : 0;
        }

        int lastDayOfInstalment(int k) {
            return firstDay + (k + 1) * daysBetween;
        }

        int instalmentsPaidWhole() {
            int whole = 0;
            for (int k = 0; k < instalments && k < MOST_INSTALMENTS; k++) {
                if (openSums[k] == 0) {
                    whole++;
                }
            }
            return whole;
        }

        int dueOn(int day) {
            if (broken) {
                return owed();
            }
            int notYetDue = 0;
            for (int k = 0; k < instalments && k < MOST_INSTALMENTS; k++) {
                if (lastDayOfInstalment(k) > day) {
                    notYetDue += openSums[k];
                }
            }
            return owed() - notYetDue;
        }

        /** The number of the day with which the phase breaks if nothing more is settled; NONE if with none. */
        int dayOfBreak() {
            int firstOpen = instalmentsPaidWhole();
            return broken || firstOpen >= instalments ? NONE : lastDayOfInstalment(firstOpen) + 1;
        }
    }

    /** The buffer, and a reader that goes through it order by order. */
    private static final class Orders {
        final int[] codes;
        int length;
        /** The index of the character that is read next; behind a failed reading, that of the wrong one. */
        int at;
        int kind;
        int phase;
        int use;
        int number;

        Orders() {
            codes = new int[MOST_CODES];
            length = 0;
            at = 0;
        }

        int appendCode(int code) {
            if (length < MOST_CODES) {
                codes[length] = code;
                length++;
            }
            return length;
        }

        void rewind() {
            at = 0;
        }

        /** Whether the buffer is a complete row of orders. */
        boolean readRow() {
            rewind();
            boolean read = readNextOrder();
            for (int i = 0; i < MOST_CODES && read && at < length; i++) {
                read = readNextOrder();
            }
            return read;
        }

        /** Reads an order and, unless it is the first one, the ";" before it. */
        boolean readNextOrder() {
            return (at == 0 || readSign(';')) && readOrder();
        }

        private boolean readOrder() {
            if (readSign('a')) {
                kind = 'a';
                return readPhase() && readUse() && readSign('=') && readNumber(0, 3);
            }
            if (readSign('b')) {
                kind = 'b';
                return readPhase();
            }
            if (readSign('p')) {
                kind = 'p';
                return readPhase() && readSign(':') && readNumber(1, 5);
            }
            kind = 'd';
            return readSign('d') && readNumber(1, 2);
        }

        private boolean readPhase() {
            phase = readDigit(0, MOST_PHASES - 1);
            return phase != NONE;
        }

        private boolean readUse() {
            use = readDigit(0, USES - 1);
            return use != NONE;
        }

        private boolean readNumber(int leastFirstDigit, int mostDigits) {
            number = readDigit(leastFirstDigit, 9);
            if (number == NONE) {
                return false;
            }
            // Numbers are without leading zeros, so nothing follows a zero.
            int digits = number == 0 ? mostDigits : 1;
            while (digits < mostDigits && isDigit(0, 9)) {
                number = 10 * number + readDigit(0, 9);
                digits++;
            }
            return true;
        }

        private int readDigit(int least, int most) {
            if (!isDigit(least, most)) {
                return NONE;
            }
            at++;
            return codes[at - 1] - '0';
        }

        private boolean isDigit(int least, int most) {
            return at >= 0 && at < length && codes[at] >= '0' + least && codes[at] <= '0' + most;
        }

        private boolean readSign(char sign) {
            if (at < 0 || at >= length || codes[at] != sign) {
                return false;
            }
            at++;
            return true;
        }
    }
}
