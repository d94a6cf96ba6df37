/** What is saved and what undo brings back, from no saved state to more than 6. */
final class UndoEdgesTest extends Levies {
    private UndoEdgesTest() {
    }

    public static void main(String[] args) {
        noneIsSaved();
        anyNumberOfCalls();
        callsAndUndosByTurns();
        oldestIsDropped();
        eachCallIsUndone();
        savedEvenIfNothingChanges();
        refusedCallsSaveNothing();
        questionsSaveNothing();
        bufferIsNotRestored();
        undoneCallsStayUndone();
        brokenPhaseIsMended();
        manyCalls();
        finish("UndoEdgesTest", args);
    }

    private static void noneIsSaved() {
        sentence("Throws IllegalStateException if there is none");
        refused("undo of a new object", STATE, LevyPhases::new, LevyPhases::undo);
        refused("undo with a buffer", STATE, () -> having(new LevyPhases(), "d1"), LevyPhases::undo);
        Making undone = () -> {
            LevyPhases x = withPhases(1);
            x.undo();
            x.undo();
            return x;
        };
        refused("undo when all is undone", STATE, undone, LevyPhases::undo);
        due("none is saved", undone.made().count(15), 0);
    }

    private static void anyNumberOfCalls() {
        sentence("At most 6 states are saved; the oldest one is dropped first.");
        for (int calls = 0; calls <= 20; calls++) {
            LevyPhases x = new LevyPhases();
            x.rate(0, 0);
            x.undo();
            for (int i = 1; i <= calls; i++) {
                x.rate(0, i);
                due("saved states", x.count(15), Math.min(i, 6));
            }
            int saved = Math.min(calls, 6);
            for (int i = 1; i <= saved; i++) {
                due("saved states that are left", x.undo(), saved - i);
                due("the rate before", x.count(11), calls == i ? 100 : calls - i);
            }
            state("no more", x::undo);
            due("the oldest one that is saved", x.count(11), calls <= 6 ? 100 : calls - 6);
        }
    }

    private static void callsAndUndosByTurns() {
        sentence("Returns how many saved states are left.");
        for (int calls = 1; calls <= 8; calls++) {
            for (int undos = 1; undos <= Math.min(calls, 6); undos++) {
                LevyPhases x = new LevyPhases();
                for (int i = 1; i <= calls; i++) {
                    x.rate(1, i);
                }
                for (int i = 1; i <= undos; i++) {
                    x.undo();
                }
                int left = Math.min(calls, 6) - undos;
                due("left", x.count(15), left);
                for (int i = 1; i <= 5; i++) {
                    x.rate(1, 100 + i);
                    due("saved anew", x.count(15), Math.min(left + i, 6));
                }
                for (int i = 4; i >= 1; i--) {
                    x.undo();
                    due("the new ones come back", x.count(12), 100 + i);
                }
                x.undo();
                due("the one before them", x.count(12), calls == undos ? 60 : calls - undos);
            }
        }
    }

    private static void oldestIsDropped() {
        sentence("At most 6 states are saved; the oldest one is dropped first.");
        LevyPhases x = new LevyPhases();
        x.addPhase();
        x.area(0, 0, 20);
        x.exempt(0, 0, 10);
        x.begin(0);
        x.pay(0, 100);
        x.land(0, 10);
        due("six", x.count(15), 6);
        x.pass(1);
        due("still six", x.count(15), 6);
        int[] left = {5, 4, 3, 2, 1, 0};
        for (int want : left) {
            due("left", x.undo(), want);
        }
        state("the first state is dropped", x::undo);
        due("the phase is there", x.count(0), 1);
        due("its area is not", x.phase(0, 12), 0);
    }

    /** Two phases, of which phase 0 has begun and is paid in part, and phase 1 not; five states are saved. */
    private static LevyPhases fiveSaved() {
        LevyPhases x = new LevyPhases();
        x.addPhase();
        x.addPhase();
        write(x, "a00=20;a01=20;a10=30;a11=40");
        x.run();
        x.exempt(0, 0, 10);
        write(x, "b0;p0:1201");
        x.run();
        return x;
    }

    private static void isUndone(String what, CallOn call) {
        LevyPhases x = fiveSaved();
        long before = x.digest();
        call.answer(x);
        due(what + " is saved", x.count(15), 6);
        dueTrue(what + " changes something", x.digest() != before);
        due(what + " is undone", x.undo(), 5);
        due("all is as before " + what, x.digest(), before);
        tell("and all that was saved, before " + what, traceOf(x), traceOf(fiveSaved()));
    }

    private static void eachCallIsUndone() {
        sentence("Each method that is marked \"undoable\" and does not throw an exception saves the state from before it");
        due("five saved", fiveSaved().count(15), 5);
        isUndone("addPhase", LevyPhases::addPhase);
        isUndone("area", x -> x.area(1, 0, 7));
        isUndone("exempt", x -> x.exempt(1, 0, 7));
        isUndone("rate", x -> x.rate(1, 7));
        isUndone("set 0", x -> x.set(0, 7));
        isUndone("set 1", x -> x.set(1, 7));
        isUndone("set 2", x -> x.set(2, 7));
        isUndone("set 3", x -> x.set(3, 7));
        isUndone("begin", x -> x.begin(1));
        isUndone("pay", x -> x.pay(0, 7));
        isUndone("land", x -> x.land(0, 7));
        isUndone("lapse", x -> x.lapse(0, 0));
        isUndone("pass", x -> x.pass(1));
        isUndone("a pass that breaks", x -> x.pass(99));
        isUndone("run", x -> {
            write(x, "a10=5;b1;p1:7;d99");
            return x.run();
        });
    }

    private static void isSaved(String what, CallOn call) {
        LevyPhases x = fiveSaved();
        long before = x.digest();
        call.answer(x);
        due(what + " is saved", x.count(15), 6);
        due(what + " is undone", x.undo(), 5);
        due("as before " + what, x.digest(), before);
    }

    private static void savedEvenIfNothingChanges() {
        sentence("saves the state from before it (also if it changes nothing): all but the buffer and the saved states");
        isSaved("the same area", x -> x.area(1, 0, 30));
        isSaved("no area again", x -> x.area(1, 3, 0));
        isSaved("the same exempt area", x -> x.exempt(1, 0, 0));
        isSaved("the same rate", x -> x.rate(0, 100));
        isSaved("the same setting", x -> x.set(1, 5));
        isSaved("a run of nothing", x -> {
            write(x, "b0");
            return x.run();
        });
        isSaved("a run of the same area", x -> {
            write(x, "a10=30");
            return x.run();
        });
        LevyPhases y = fiveSaved();
        y.rate(0, 7);
        y.rate(0, 7);
        due("six at most", y.count(15), 6);
        y.undo();
        due("the same rate", y.count(11), 7);
        y.undo();
        due("the rate before", y.count(11), 100);
    }

    private static void refusedCallsSaveNothing() {
        sentence("A call that throws an exception changes nothing.");
        refused("area", STATE, UndoEdgesTest::fiveSaved, x -> x.area(0, 0, 7));
        refused("exempt", STATE, UndoEdgesTest::fiveSaved, x -> x.exempt(0, 0, 7));
        refused("rate", RANGE, UndoEdgesTest::fiveSaved, x -> x.rate(0, 1000));
        refused("set", RANGE, UndoEdgesTest::fiveSaved, x -> x.set(0, 0));
        refused("begin", STATE, UndoEdgesTest::fiveSaved, x -> x.begin(0));
        refused("pay", STATE, UndoEdgesTest::fiveSaved, x -> x.pay(1, 7));
        refused("land", STATE, UndoEdgesTest::fiveSaved, x -> x.land(1, 7));
        refused("lapse", STATE, UndoEdgesTest::fiveSaved, x -> x.lapse(0, 1));
        refused("pass", RANGE, UndoEdgesTest::fiveSaved, x -> x.pass(0));
        refused("append", RANGE, UndoEdgesTest::fiveSaved, x -> x.append(32));
        refused("run", RANGE, () -> having(fiveSaved(), "b1;"), LevyPhases::run);
        Making sixSaved = () -> {
            LevyPhases x = fiveSaved();
            x.pass(1);
            x.pass(2);
            return x;
        };
        refused("area beside six", STATE, sixSaved, x -> x.area(0, 0, 7));
        refused("begin beside six", STATE, sixSaved, x -> x.begin(0));
        refused("run beside six", RANGE, () -> having(sixSaved.made(), "d"), LevyPhases::run);
    }

    private static void savesNothing(String what, CallOn call) {
        LevyPhases x = having(fiveSaved(), "b1");
        call.answer(x);
        tell(what + " changes nothing", traceOf(x), traceOf(having(fiveSaved(), "b1")));
    }

    private static void questionsSaveNothing() {
        sentence("what would be; nothing is changed, and the limit of days does not matter");
        savesNothing("firstError", LevyPhases::firstError);
        savesNothing("mostUrgent", LevyPhases::mostUrgent);
        savesNothing("digest", LevyPhases::digest);
        savesNothing("settledShare", x -> (long) x.settledShare());
        savesNothing("surchargesIn", x -> x.surchargesIn(500));
        for (int i = 0; i < 16; i++) {
            int what = i;
            savesNothing("count", x -> x.count(what));
            savesNothing("phase", x -> x.phase(what % 2, what % 14));
            savesNothing("use", x -> x.use(what % 2, what % 4, what % 5));
            savesNothing("instalment", x -> x.instalment(what % 2, what % 4, what % 3));
            savesNothing("whyNot", x -> x.whyNot(what % 5, what % 2, 0));
            savesNothing("ifBegun", x -> x.ifBegun(what % 2, what % 3));
        }
        for (int i = 0; i < 2; i++) {
            int phase = i;
            savesNothing("breaksIn", x -> x.breaksIn(phase));
            savesNothing("dueIn", x -> x.dueIn(phase, 500));
            savesNothing("setting", x -> x.setting(phase));
        }
    }

    private static void bufferIsNotRestored() {
        sentence("saves the state from before it (also if it changes nothing): all but the buffer and the saved states");
        LevyPhases x = having(new LevyPhases(), "d1");
        x.rate(0, 7);
        write(x, ";d2");
        due("undo", x.undo(), 0);
        due("the buffer stays", x.firstError(), 5);
        due("append saves nothing", x.count(15), 0);
        due("it is run whole", x.run(), 2);
        due("three days", x.count(3), 3);
        x.undo();
        due("the day is back", x.count(3), 0);
        due("the buffer is not", x.clearBuffer(), 0);
        x.rate(0, 7);
        write(x, "d1");
        due("clearBuffer", x.clearBuffer(), 2);
        due("clearBuffer saves nothing", x.count(15), 1);
        x.undo();
        due("what was cleared stays so", x.clearBuffer(), 0);
    }

    private static void undoneCallsStayUndone() {
        sentence("Restores the latest saved state, and drops it.");
        LevyPhases x = fiveSaved();
        x.rate(0, 7);
        x.undo();
        x.rate(1, 8);
        x.undo();
        due("undo is not undone", x.count(11), 100);
        due("nor the other", x.count(12), 60);
        due("five are left", x.count(15), 5);
        x.undo();
        due("the beginning is undone", x.phase(0, 0), NONE);
        due("no instalment", x.instalment(0, 0, 0), NONE);
        due("it can begin again, later", x.pass(9) + x.begin(0), 2200);
        due("its day", x.phase(0, 0), 9);
    }

    private static void brokenPhaseIsMended() {
        sentence("Restores the latest saved state, and drops it.");
        LevyPhases x = begun(10);
        x.pass(60);
        long before = x.digest();
        x.pass(1);
        due("broken", x.phase(0, 9) * 1000 + x.phase(0, 7), 1050);
        x.undo();
        due("as before", x.digest(), before);
        x.pay(0, 500);
        due("paid in time now", x.pass(1), 0);
        due("not broken", x.phase(0, 9), 0);
    }

    private static void manyCalls() {
        sentence("An object is used for at most 512 calls after it has been made; what later calls answer is free.");
        LevyPhases x = new LevyPhases();
        for (int i = 0; i < 500; i++) {
            x.rate(2, i);
        }
        for (int i = 498; i >= 493; i--) {
            x.undo();
            due("the rate before", x.count(13), i);
        }
        LevyPhases y = new LevyPhases();
        for (int i = 0; i < 510; i++) {
            y.pass(i % 19 + 1);
        }
        due("its day", y.count(3), 26 * 190 + 136);
        due("the 512th call", y.undo(), 5);
    }
}
