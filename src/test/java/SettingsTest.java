/** Promises 1 to 8: a new object, and the calls that set something or let ticks pass. */
public final class SettingsTest {
    private static final int[] FAR = {Integer.MIN_VALUE, Integer.MAX_VALUE};
    private static final int[] AT_FIRST = {1000, 10, 20, 100, 0};
    private static final int[] LEAST = {1, 0, 0, 0, 0};
    private static final int[] MOST = {1000, 300, 300, 1000, 2};
    private static final int[] TUNE_AT_FIRST = {0, 100, 0, 1000};
    private static final int[] TUNE_LEAST = {0, -10000, 0, 1};
    private static final int[] TUNE_MOST = {1, 10000, 2000, 1000};

    public static void main(String[] args) {
        newObject();
        newObjectsShareNothing();
        setRangeValve();
        setRangeA();
        setRangeB();
        setRangeFalling();
        setRangeReturns();
        setRangeNoValve();
        setRangeOutOfRange();
        setRangeUndoable();
        setValveValve();
        setValveWhat();
        setValveValue();
        setValveReturns();
        setValveNoValve();
        setValveOutOfRange();
        setValveUndoable();
        setSignalRange();
        setSignalReturns();
        setSignalOutOfRange();
        setSignalUndoable();
        tuneWhat();
        tuneValue();
        tuneReturns();
        tuneOutOfRange();
        tuneUndoable();
        serviceEffect();
        serviceReturns();
        serviceValve();
        serviceNoValve();
        putStemEffect();
        putStemEndsTheRunning();
        putStemValve();
        putStemPosition();
        putStemReturns();
        putStemNoValve();
        putStemOutOfRange();
        settingsChangeNothingElse();
        serviceAndHandChangeNothingElse();
        runUndoable();
        runTicks();
        runReturns();
        runOutOfRange();
        runTooLong();
        Check.finish();
    }

    // ---- promise 1

    private static void newObject() {
        Check.sentence("Promise 1", "Creates a pair of valves at time 0, with everything as at first, volumes of 0, "
            + "an empty ledger, an empty command text and an empty undo stack.");
        ValveTwins x = new ValveTwins();
        Check.pairIs("new", x, 0, 0, 100, 0, 1000, 0, 0, 0, 0, 0, 0, 0);
        Check.valveIs("new", x, 0, 1000, 10, 20, 100, 0, 0, 500, 0, 0, 0, 0, 0, 0, 0, 0, 0, 0, 10, 10, 0, 0);
        Check.valveIs("new", x, 1, 1000, 10, 20, 100, 0, 500, 1000, 0, 0, 0, 0, 0, 0, 0, 0, 0, 0, 10, 10, 0, 0);
        Check.due("new: ledger(0, 0)", x.ledger(0, 0), ValveTwins.NONE);
        Check.due("new: ledgerSum(1, 2)", x.ledgerSum(1, 2), 0);
        Check.due("new: clearCommands()", x.clearCommands(), 0);
        Check.due("new: runCommands()", new ValveTwins().runCommands(), 0);
        Check.refused("new: undo()", Check.BAD_STATE, States::fresh, y -> y.undo());
        Check.sentence("Terms", "`NONE = -1000000`: Returned where there is no such value.");
        Check.due("NONE", ValveTwins.NONE, -1000000);
    }

    private static void newObjectsShareNothing() {
        Check.sentence("Promise 1", "with everything as at first");
        ValveTwins before = new ValveTwins();
        ValveTwins busy = States.busy();
        ValveTwins behind = new ValveTwins();
        Check.count(Check.traces(before).equals(Check.traces(behind)), "the two are not alike");
        Check.count(!Check.traces(busy).equals(Check.traces(new ValveTwins())), "the busy one is as new");
    }

    // ---- promise 2

    private static void setRangeValve() {
        Check.sentence("Promise 2", "`valve`: 0 or 1");
        ValveTwins x = new ValveTwins();
        x.setRange(0, 3, 4, true);
        Check.valveIs("setRange(0, ..)", x, 0, 1000, 10, 20, 100, 0, 3, 4, 1);
        Check.valveIs("setRange(0, ..)", x, 1, 1000, 10, 20, 100, 0, 500, 1000, 0);
        x.setRange(1, 5, 6, false);
        Check.valveIs("setRange(1, ..)", x, 0, 1000, 10, 20, 100, 0, 3, 4, 1);
        Check.valveIs("setRange(1, ..)", x, 1, 1000, 10, 20, 100, 0, 5, 6, 0);
    }

    private static void setRangeA() {
        Check.sentence("Promise 2", "`a`: 0 to 999");
        for (int valve = 0; valve <= 1; valve++) {
            ValveTwins x = new ValveTwins();
            int v = valve;
            for (int a : new int[] {0, 1, 998, 999}) {
                x.setRange(valve, a, 1000, false);
                Check.due("a of the valve " + valve, x.valve(valve, 5), a);
            }
            for (int a : new int[] {-1, 1000, 1001, FAR[0], FAR[1]}) {
                String call = "setRange(" + valve + ", " + a + ", 1000, true)";
                Check.refused(call, Check.BAD_VALUE, States::busy, y -> y.setRange(v, a, 1000, true));
            }
        }
    }

    private static void setRangeB() {
        Check.sentence("Promise 2", "`b`: above a to 1000");
        int[][] right = {{0, 1}, {0, 1000}, {0, 999}, {499, 500}, {999, 1000}};
        int[][] wrong = {{0, 0}, {0, -1}, {0, 1001}, {500, 500}, {500, 499}, {999, 999}, {999, 998}, {999, 1001},
            {998, 1001}, {500, 0}, {0, FAR[0]}, {0, FAR[1]}, {999, FAR[0]}, {999, FAR[1]}};
        for (int valve = 0; valve <= 1; valve++) {
            ValveTwins x = new ValveTwins();
            int v = valve;
            for (int[] row : right) {
                x.setRange(valve, row[0], row[1], true);
                Check.due("a", x.valve(valve, 5), row[0]);
                Check.due("b", x.valve(valve, 6), row[1]);
            }
            for (int[] row : wrong) {
                String call = "setRange(" + valve + ", " + row[0] + ", " + row[1] + ", false)";
                Check.refused(call, Check.BAD_VALUE, States::busy, y -> y.setRange(v, row[0], row[1], false));
            }
        }
    }

    private static void setRangeFalling() {
        Check.sentence("Promise 2", "`falling`: whether it is falling");
        ValveTwins x = new ValveTwins();
        boolean[] order = {false, true, true, false};
        for (boolean falling : order) {
            for (int valve = 0; valve <= 1; valve++) {
                x.setRange(valve, 10, 20, falling);
                Check.due("falling of the valve " + valve, x.valve(valve, 7), falling ? 1 : 0);
                Check.due("demand of the valve " + valve, x.valve(valve, 8), falling ? 1000 : 0);
            }
        }
    }

    private static void setRangeReturns() {
        Check.sentence("Promise 2", "Returns 10000 * (previous a) + (previous b).");
        ValveTwins x = new ValveTwins();
        Check.due("setRange(0, 999, 1000, true)", x.setRange(0, 999, 1000, true), 500);
        Check.due("setRange(0, 0, 1, false)", x.setRange(0, 0, 1, false), 9991000);
        Check.due("setRange(0, 0, 1, false) again", x.setRange(0, 0, 1, false), 1);
        Check.due("setRange(1, 10, 20, true)", x.setRange(1, 10, 20, true), 5001000);
        Check.due("setRange(1, 0, 1000, false)", x.setRange(1, 0, 1000, false), 100020);
    }

    private static void setRangeNoValve() {
        Check.sentence("Promise 2", "Throws `IndexOutOfBoundsException` if there is no such valve");
        for (int valve : Check.WRONG_VALVES) {
            String call = "setRange(" + valve + ", 0, 1, false)";
            Check.refused(call, Check.NO_VALVE, States::busy, y -> y.setRange(valve, 0, 1, false));
        }
    }

    private static void setRangeOutOfRange() {
        Check.sentence("Promise 2", "Throws `IllegalArgumentException` if a or b is out of range");
        Check.refused("a alone", Check.BAD_VALUE, States::full, y -> y.setRange(1, -1, 5, true));
        Check.refused("b alone", Check.BAD_VALUE, States::full, y -> y.setRange(1, 5, 1001, true));
        Check.refused("both", Check.BAD_VALUE, States::full, y -> y.setRange(1, 1000, 1001, true));
        Check.refused("both far", Check.BAD_VALUE, States::full, y -> y.setRange(0, FAR[1], FAR[0], true));
        Check.refused("both below", Check.BAD_VALUE, States::full, y -> y.setRange(0, -2, -1, true));
    }

    private static void setRangeUndoable() {
        Check.sentence("Promise 2", "Sets the range of a valve, and whether it is falling. Undoable.");
        Check.undoable("setRange(0, ..)", States::busy, y -> y.setRange(0, 4, 5, false));
        Check.undoable("setRange(1, ..)", States::busy, y -> y.setRange(1, 4, 5, true));
        Check.undoable("setRange as it is", States::busy, y -> y.setRange(0, 100, 700, true));
    }

    // ---- promise 3

    private static void setValveValve() {
        Check.sentence("Promise 3", "`valve`: 0 or 1");
        for (int valve = 0; valve <= 1; valve++) {
            for (int what = 0; what <= 4; what++) {
                ValveTwins x = new ValveTwins();
                x.setValve(valve, what, 2);
                Check.due("it is set", x.valve(valve, what), 2);
                for (int other = 0; other <= 4; other++) {
                    Check.due("the other valve", x.valve(1 - valve, other), AT_FIRST[other]);
                    Check.due("its settings", x.valve(valve, other), other == what ? 2 : AT_FIRST[other]);
                }
            }
        }
    }

    private static void setValveWhat() {
        Check.sentence("Promise 3", "`what`: 0 speed, 1 stick, 2 extra stick, 3 size, 4 characteristic (0 to 2)");
        // Each setting is seen by what it does, not only by its number.
        ValveTwins x = States.plain();
        x.setValve(0, 0, 60);
        Check.due("speed", x.moveFor(0, 400), 60);
        x.setValve(0, 0, 1000);
        x.setValve(0, 1, 70);
        Check.due("stick", x.valve(0, 17), 70);
        x.setSignal(500);
        x.run(1);
        x.setValve(0, 2, 80);
        Check.due("extra stick", x.valve(0, 18), 150);
        x.setValve(0, 3, 600);
        Check.due("size", x.valve(0, 19), 300);
        x.setValve(0, 4, 1);
        Check.due("characteristic 1", x.valve(0, 19), 150);
        x.setValve(0, 4, 2);
        Check.due("characteristic 2", x.valve(0, 19), 450);
        for (int what : new int[] {-1, 5, FAR[0], FAR[1]}) {
            Check.refused("setValve(0, " + what + ", 1)", Check.BAD_VALUE, States::busy, y -> y.setValve(0, what, 1));
        }
    }

    private static void setValveValue() {
        Check.sentence("Promise 3", "`value`: the new value, in its range");
        for (int valve = 0; valve <= 1; valve++) {
            for (int what = 0; what <= 4; what++) {
                ValveTwins x = new ValveTwins();
                int v = valve;
                int w = what;
                for (int value : new int[] {LEAST[what], LEAST[what] + 1, MOST[what] - 1, MOST[what]}) {
                    x.setValve(valve, what, value);
                    Check.due("setValve(" + valve + ", " + what + ", ..)", x.valve(valve, what), value);
                }
                for (int value : new int[] {LEAST[what] - 1, MOST[what] + 1, FAR[0], FAR[1]}) {
                    String call = "setValve(" + valve + ", " + what + ", " + value + ")";
                    Check.refused(call, Check.BAD_VALUE, States::busy, y -> y.setValve(v, w, value));
                }
            }
        }
    }

    private static void setValveReturns() {
        Check.sentence("Promise 3", "Returns the previous value.");
        for (int valve = 0; valve <= 1; valve++) {
            for (int what = 0; what <= 4; what++) {
                ValveTwins x = new ValveTwins();
                String call = "setValve(" + valve + ", " + what + ", ..)";
                Check.due(call + " first", x.setValve(valve, what, LEAST[what]), AT_FIRST[what]);
                Check.due(call + " second", x.setValve(valve, what, MOST[what]), LEAST[what]);
                Check.due(call + " third", x.setValve(valve, what, MOST[what]), MOST[what]);
            }
        }
    }

    private static void setValveNoValve() {
        Check.sentence("Promise 3", "Throws `IndexOutOfBoundsException` if there is no such valve");
        for (int valve : Check.WRONG_VALVES) {
            String call = "setValve(" + valve + ", 0, 1)";
            Check.refused(call, Check.NO_VALVE, States::busy, y -> y.setValve(valve, 0, 1));
        }
    }

    private static void setValveOutOfRange() {
        Check.sentence("Promise 3", "Throws `IllegalArgumentException` if what or value is out of range");
        Check.refused("what alone", Check.BAD_VALUE, States::full, y -> y.setValve(1, 5, 0));
        Check.refused("value alone", Check.BAD_VALUE, States::full, y -> y.setValve(1, 4, 3));
        Check.refused("both", Check.BAD_VALUE, States::full, y -> y.setValve(1, -1, -1));
        // Each value would be in the range of another setting.
        Check.refused("a stick of 1000", Check.BAD_VALUE, States::full, y -> y.setValve(0, 1, 1000));
        Check.refused("an extra stick of 1000", Check.BAD_VALUE, States::full, y -> y.setValve(0, 2, 1000));
        Check.refused("a speed of 0", Check.BAD_VALUE, States::full, y -> y.setValve(0, 0, 0));
        Check.refused("a characteristic of 300", Check.BAD_VALUE, States::full, y -> y.setValve(0, 4, 300));
    }

    private static void setValveUndoable() {
        Check.sentence("Promise 3", "Sets a value of a valve. Undoable.");
        for (int what = 0; what <= 4; what++) {
            int w = what;
            Check.undoable("setValve(0, " + w + ", 0 or 1)", States::busy, y -> y.setValve(0, w, w == 4 ? 0 : 1));
            Check.undoable("setValve(1, " + w + ", 2)", States::busy, y -> y.setValve(1, w, 2));
        }
        Check.undoable("setValve as it is", States::busy, y -> y.setValve(0, 0, 90));
    }

    // ---- promise 4

    private static void setSignalRange() {
        Check.sentence("Promise 4", "`signal`: 0 to 1000");
        ValveTwins x = new ValveTwins();
        for (int signal : new int[] {1, 0, 999, 1000}) {
            x.setSignal(signal);
            Check.due("setSignal(" + signal + ")", x.pair(0), signal);
        }
        Check.refused("setSignal(-1)", Check.BAD_VALUE, States::busy, y -> y.setSignal(-1));
        Check.refused("setSignal(1001)", Check.BAD_VALUE, States::busy, y -> y.setSignal(1001));
        Check.due("no time passes", x.pair(5), 0);
        Check.due("no stem moves", x.valve(0, 9), 0);
    }

    private static void setSignalReturns() {
        Check.sentence("Promise 4", "Returns the previous signal.");
        ValveTwins x = new ValveTwins();
        Check.due("setSignal(1000)", x.setSignal(1000), 0);
        Check.due("setSignal(0)", x.setSignal(0), 1000);
        Check.due("setSignal(7)", x.setSignal(7), 0);
        Check.due("setSignal(7) again", x.setSignal(7), 7);
    }

    private static void setSignalOutOfRange() {
        Check.sentence("Promise 4", "Throws `IllegalArgumentException` if signal is out of range");
        for (int signal : new int[] {-1, 1001, FAR[0], FAR[1]}) {
            Check.refused("setSignal(" + signal + ")", Check.BAD_VALUE, States::full, y -> y.setSignal(signal));
        }
    }

    private static void setSignalUndoable() {
        Check.sentence("Promise 4", "Sets the signal. Undoable.");
        Check.undoable("setSignal(0)", States::busy, y -> y.setSignal(0));
        Check.undoable("setSignal(1000)", States::busy, y -> y.setSignal(1000));
        Check.undoable("setSignal as it is", States::busy, y -> y.setSignal(y.pair(0)));
    }

    // ---- promise 5

    private static void tuneWhat() {
        Check.sentence("Promise 5", "`what`: 0 1 if it is on or 0 if not, 1 gain, 2 wanted flow, 3 rate");
        ValveTwins x = new ValveTwins();
        x.tune(1, 300);
        x.tune(2, 70);
        x.setSignal(500);
        x.run(1);
        Check.due("off: the signal stays", x.pair(0), 500);
        x.tune(0, 1);
        x.run(1);
        Check.due("300 * (70 - 100) / 1000", x.pair(0), 491);
        x.tune(3, 4);
        x.run(1);
        Check.due("by the rate", x.pair(0), 487);
        x.tune(0, 0);
        x.run(1);
        Check.due("off again", x.pair(0), 487);
        for (int what : new int[] {-1, 4, FAR[0], FAR[1]}) {
            Check.refused("tune(" + what + ", 1)", Check.BAD_VALUE, States::busy, y -> y.tune(what, 1));
        }
    }

    private static void tuneValue() {
        Check.sentence("Promise 5", "`value`: the new value, in its range");
        for (int what = 0; what <= 3; what++) {
            ValveTwins x = new ValveTwins();
            int w = what;
            for (int value : new int[] {TUNE_LEAST[what], TUNE_LEAST[what] + 1, TUNE_MOST[what] - 1, TUNE_MOST[what]}) {
                x.tune(what, value);
                for (int other = 0; other <= 3; other++) {
                    Check.due("tune(" + what + ", " + value + "): the setting " + other, x.pair(1 + other),
                        other == what ? value : TUNE_AT_FIRST[other]);
                }
            }
            for (int value : new int[] {TUNE_LEAST[what] - 1, TUNE_MOST[what] + 1, FAR[0], FAR[1]}) {
                Check.refused("tune(" + what + ", " + value + ")", Check.BAD_VALUE, States::busy, y -> y.tune(w, value));
            }
        }
    }

    private static void tuneReturns() {
        Check.sentence("Promise 5", "Returns the previous value.");
        for (int what = 0; what <= 3; what++) {
            ValveTwins x = new ValveTwins();
            String call = "tune(" + what + ", ..)";
            Check.due(call + " first", x.tune(what, TUNE_MOST[what]), TUNE_AT_FIRST[what]);
            Check.due(call + " second", x.tune(what, TUNE_LEAST[what]), TUNE_MOST[what]);
            Check.due(call + " third", x.tune(what, TUNE_LEAST[what]), TUNE_LEAST[what]);
        }
    }

    private static void tuneOutOfRange() {
        Check.sentence("Promise 5", "Throws `IllegalArgumentException` if what or value is out of range");
        Check.refused("what alone", Check.BAD_VALUE, States::full, y -> y.tune(4, 1));
        Check.refused("value alone", Check.BAD_VALUE, States::full, y -> y.tune(0, 2));
        Check.refused("both", Check.BAD_VALUE, States::full, y -> y.tune(-1, -20000));
        // Each value would be in the range of another setting.
        Check.refused("a rate of 0", Check.BAD_VALUE, States::full, y -> y.tune(3, 0));
        Check.refused("a rate of 2000", Check.BAD_VALUE, States::full, y -> y.tune(3, 2000));
        Check.refused("a wanted flow of -1", Check.BAD_VALUE, States::full, y -> y.tune(2, -1));
        Check.refused("a wanted flow of 10000", Check.BAD_VALUE, States::full, y -> y.tune(2, 10000));
    }

    private static void tuneUndoable() {
        Check.sentence("Promise 5", "Sets a setting of the controller. Undoable.");
        for (int what = 0; what <= 3; what++) {
            int w = what;
            Check.undoable("tune(" + w + ", least)", States::busy, y -> y.tune(w, TUNE_LEAST[w]));
            Check.undoable("tune(" + w + ", as it is)", States::busy, y -> y.tune(w, y.pair(1 + w)));
        }
    }

    // ---- promise 6

    /** Up to 1000 and down to 200, with a wear of 18 for the travel and 3 for the reversal. */
    private static ValveTwins worn(int valve) {
        ValveTwins x = new ValveTwins();
        x.setRange(valve, 0, 1000, false);
        x.setRange(1 - valve, 0, 1, false);
        x.setValve(valve, 3, 1000);
        x.setSignal(1000);
        x.run(1);
        x.setSignal(200);
        x.run(1);
        return x;
    }

    private static void serviceEffect() {
        Check.sentence("Promise 6", "Services a valve: its travel and reversals since the latest service become 0; "
            + "its stem stays. Undoable.");
        for (int valve = 0; valve <= 1; valve++) {
            ValveTwins x = worn(valve);
            String where = "worn valve " + valve;
            Check.valveIs(where, x, valve, 1000, 10, 20, 1000, 0, 0, 1000, 0, 200, 200, -1, 1, 1800, 1, 1800, 1, 21,
                30, 0, 200, 0);
            x.service(valve);
            Check.valveIs(where + " serviced", x, valve, 1000, 10, 20, 1000, 0, 0, 1000, 0, 200, 200, -1, 1, 0, 0,
                1800, 1, 0, 30, 0, 200, 1);
            x.service(valve);
            Check.due(where + ": services", x.valve(valve, 20), 2);
            Check.due(where + ": services of the other one", x.valve(1 - valve, 20), 0);
        }
        Check.undoable("service(0)", States::busy, y -> y.service(0));
        Check.undoable("service(1)", States::busy, y -> y.service(1));
        Check.undoable("service of a new valve", States::fresh, y -> y.service(1));
    }

    private static void serviceReturns() {
        Check.sentence("Promise 6", "Returns the wear that it had.");
        for (int valve = 0; valve <= 1; valve++) {
            ValveTwins x = worn(valve);
            Check.due("service of the worn one", x.service(valve), 21);
            Check.due("service again", x.service(valve), 0);
        }
        Check.due("service of a new one", new ValveTwins().service(0), 0);
    }

    private static void serviceValve() {
        Check.sentence("Promise 6", "`valve`: 0 or 1");
        ValveTwins x = new ValveTwins();
        x.setSignal(1000);
        x.run(1);
        Check.due("service(0)", x.service(0), 10);
        Check.due("wear of the valve 0", x.valve(0, 16), 0);
        Check.due("wear of the valve 1", x.valve(1, 16), 10);
        Check.due("service(1)", x.service(1), 10);
        Check.due("wear of the valve 1", x.valve(1, 16), 0);
        Check.due("services of the valve 0", x.valve(0, 20), 1);
        Check.due("services of the valve 1", x.valve(1, 20), 1);
        Check.refused("service(-1)", Check.NO_VALVE, States::busy, y -> y.service(-1));
        Check.refused("service(2)", Check.NO_VALVE, States::busy, y -> y.service(2));
    }

    private static void serviceNoValve() {
        Check.sentence("Promise 6", "Throws `IndexOutOfBoundsException` if there is no such valve");
        for (int valve : Check.WRONG_VALVES) {
            Check.refused("service(" + valve + ")", Check.NO_VALVE, States::full, y -> y.service(valve));
        }
    }

    // ---- promise 7

    private static void putStemEffect() {
        Check.sentence("Promise 7", "Puts a stem to a position by hand, without travel; it is at rest then, "
            + "and has no last way. Undoable.");
        for (int valve = 0; valve <= 1; valve++) {
            ValveTwins x = worn(valve);
            x.putStem(valve, 700);
            Check.valveIs("put", x, valve, 1000, 10, 20, 1000, 0, 0, 1000, 0, 200, 700, 0, 0, 1800, 1, 1800, 1, 21,
                10, 10, 700, 0);
        }
        Check.undoable("putStem(0, 5)", States::busy, y -> y.putStem(0, 5));
        Check.undoable("putStem(1, 5)", States::busy, y -> y.putStem(1, 5));
        Check.undoable("putStem as it is", States::fresh, y -> y.putStem(1, 0));
    }

    private static void putStemEndsTheRunning() {
        Check.sentence("Promise 7", "it is at rest then, and has no last way");
        ValveTwins x = States.plain();
        x.setSignal(500);
        x.run(1);
        Check.due("running up", x.valve(0, 11), 1);
        x.putStem(0, 500);
        Check.due("at rest", x.valve(0, 11), 0);
        Check.due("no last way", x.valve(0, 10), 0);
        x.setSignal(490);
        Check.due("10 is not more than the stick", x.run(1), 0);
        x.setSignal(489);
        Check.due("11 is more: no extra stick", x.run(1), 1);
        Check.due("no reversal", x.valve(0, 13), 0);
    }

    private static void putStemValve() {
        Check.sentence("Promise 7", "`valve`: 0 or 1");
        ValveTwins x = new ValveTwins();
        x.setSignal(1000);
        x.run(1);
        x.putStem(0, 7);
        Check.due("the valve 0", x.valve(0, 9), 7);
        Check.due("the valve 1", x.valve(1, 9), 1000);
        Check.due("the valve 0 is at rest", x.valve(0, 11), 0);
        Check.due("the valve 1 is running", x.valve(1, 11), 1);
        Check.due("the valve 1 has a last way", x.valve(1, 10), 1);
        x.putStem(1, 8);
        Check.due("the valve 0", x.valve(0, 9), 7);
        Check.due("the valve 1", x.valve(1, 9), 8);
        Check.due("the valve 1 is at rest", x.valve(1, 11), 0);
        Check.refused("putStem(-1, 7)", Check.NO_VALVE, States::busy, y -> y.putStem(-1, 7));
        Check.refused("putStem(2, 7)", Check.NO_VALVE, States::busy, y -> y.putStem(2, 7));
    }

    private static void putStemPosition() {
        Check.sentence("Promise 7", "`position`: 0 to 1000");
        for (int valve = 0; valve <= 1; valve++) {
            ValveTwins x = new ValveTwins();
            int v = valve;
            for (int position : new int[] {1, 0, 999, 1000}) {
                x.putStem(valve, position);
                Check.due("position of the valve " + valve, x.valve(valve, 9), position);
                Check.due("position of the other", x.valve(1 - valve, 9), 0);
            }
            Check.refused("putStem(.., -1)", Check.BAD_VALUE, States::busy, y -> y.putStem(v, -1));
            Check.refused("putStem(.., 1001)", Check.BAD_VALUE, States::busy, y -> y.putStem(v, 1001));
        }
    }

    private static void putStemReturns() {
        Check.sentence("Promise 7", "Returns the previous position.");
        ValveTwins x = new ValveTwins();
        Check.due("putStem(0, 1000)", x.putStem(0, 1000), 0);
        Check.due("putStem(0, 0)", x.putStem(0, 0), 1000);
        Check.due("putStem(0, 0) again", x.putStem(0, 0), 0);
        Check.due("putStem(1, 30)", x.putStem(1, 30), 0);
        Check.due("putStem(1, 30) again", x.putStem(1, 30), 30);
    }

    private static void putStemNoValve() {
        Check.sentence("Promise 7", "Throws `IndexOutOfBoundsException` if there is no such valve");
        for (int valve : Check.WRONG_VALVES) {
            Check.refused("putStem(" + valve + ", 0)", Check.NO_VALVE, States::full, y -> y.putStem(valve, 0));
        }
    }

    private static void putStemOutOfRange() {
        Check.sentence("Promise 7", "Throws `IllegalArgumentException` if position is out of range");
        for (int position : new int[] {-1, 1001, FAR[0], FAR[1]}) {
            String call = "putStem(.., " + position + ")";
            Check.refused(call, Check.BAD_VALUE, States::full, y -> y.putStem(0, position));
            Check.refused(call, Check.BAD_VALUE, States::full, y -> y.putStem(1, position));
        }
    }

    // ---- promises 2 to 7

    private static void settingsChangeNothingElse() {
        for (int valve = 0; valve <= 1; valve++) {
            int v = valve;
            Check.sentence("Promise 2", "Sets the range of a valve, and whether it is falling.");
            Check.changesOnly("setRange(" + v + ", ..)", States::busy, x -> x.setRange(v, 400, 450, v == 1),
                Numbers.valve(v, 5), Numbers.valve(v, 6), Numbers.valve(v, 7), Numbers.valve(v, 8), Numbers.pair(7));
            Check.sentence("Promise 3", "Sets a value of a valve.");
            Check.changesOnly("speed " + v, States::busy, x -> x.setValve(v, 0, 55), Numbers.valve(v, 0));
            // The valve 0 runs up and the valve 1 down: only the threshold against its way has a stick.
            Check.changesOnly("stick " + v, States::busy, x -> x.setValve(v, 1, 55), Numbers.valve(v, 1),
                Numbers.valve(v, v == 0 ? 18 : 17));
            Check.changesOnly("extra stick " + v, States::busy, x -> x.setValve(v, 2, 55), Numbers.valve(v, 2),
                Numbers.valve(v, v == 0 ? 18 : 17));
            Check.changesOnly("size " + v, States::busy, x -> x.setValve(v, 3, 900), Numbers.valve(v, 3),
                Numbers.valve(v, 19), Numbers.pair(6), Numbers.pair(7));
            Check.changesOnly("characteristic " + v, States::busy, x -> x.setValve(v, 4, 0), Numbers.valve(v, 4),
                Numbers.valve(v, 19), Numbers.pair(6), Numbers.pair(7));
        }
        Check.sentence("Promise 4", "Sets the signal.");
        Check.changesOnly("setSignal(500)", States::busy, x -> x.setSignal(500), Numbers.pair(0), Numbers.pair(7),
            Numbers.valve(0, 8), Numbers.valve(1, 8));
        Check.sentence("Promise 5", "Sets a setting of the controller.");
        for (int what = 0; what <= 3; what++) {
            int w = what;
            Check.changesOnly("tune(" + w + ", ..)", States::busy, x -> x.tune(w, w == 0 ? 0 : 77), Numbers.pair(1 + w));
        }
    }

    private static void serviceAndHandChangeNothingElse() {
        for (int valve = 0; valve <= 1; valve++) {
            int v = valve;
            Check.sentence("Promise 6", "its travel and reversals since the latest service become 0; its stem stays.");
            Check.changesOnly("service(" + v + ")", States::busy, x -> x.service(v), Numbers.valve(v, 12),
                Numbers.valve(v, 13), Numbers.valve(v, 16), Numbers.valve(v, v == 0 ? 18 : 17), Numbers.valve(v, 20));
            Check.sentence("Promise 7", "Puts a stem to a position by hand, without travel");
            Check.changesOnly("putStem(" + v + ", 999)", States::busy, x -> x.putStem(v, 999), Numbers.valve(v, 9),
                Numbers.valve(v, 10), Numbers.valve(v, 11), Numbers.valve(v, 17), Numbers.valve(v, 18),
                Numbers.valve(v, 19), Numbers.pair(6));
        }
    }

    // ---- promise 8

    private static void runUndoable() {
        Check.sentence("Promise 8", "Lets ticks pass. Undoable.");
        Check.undoable("run(1)", States::busy, y -> y.run(1));
        Check.undoable("run(500)", States::busy, y -> y.run(500));
        Check.undoable("run(1) of a new one", States::fresh, y -> y.run(1));
        ValveTwins x = new ValveTwins();
        x.setSignal(1000);
        x.run(500);
        Check.undoLeaves("run(500)", x, 1);
        Check.pairIs("undone", x, 1000, 0, 100, 0, 1000, 0, 0, 200, 0, 0, 0, 0);
        Check.valveIs("undone", x, 0, 1000, 10, 20, 100, 0, 0, 500, 0, 1000, 0, 0, 0, 0, 0, 0, 0, 0, 10, 10, 0, 0);
    }

    private static void runTicks() {
        Check.sentence("Promise 8", "`ticks`: 1 to 500");
        ValveTwins x = new ValveTwins();
        int time = 0;
        for (int ticks : new int[] {1, 2, 499, 500}) {
            x.run(ticks);
            time += ticks;
            Check.due("run(" + ticks + "): time", x.pair(5), time);
        }
        Check.refused("run(0)", Check.BAD_VALUE, States::busy, y -> y.run(0));
        Check.refused("run(501)", Check.BAD_VALUE, States::busy, y -> y.run(501));
    }

    private static void runReturns() {
        Check.sentence("Promise 8", "Returns the number of ticks in which a stem moved.");
        ValveTwins x = new ValveTwins();
        Check.due("no stem", x.run(500), 0);
        x.setValve(1, 0, 250);
        x.setSignal(1000);
        Check.due("both in one tick, then one in three", x.run(6), 4);
        x.setSignal(500);
        Check.due("the valve 1 alone", x.run(3), 3);
        x.setValve(0, 0, 2);
        x.setSignal(0);
        Check.due("the valve 0 in all of 499", x.run(499), 499);
        Check.due("the last one of 500", x.run(1), 1);
        Check.due("none any more", x.run(1), 0);
        ValveTwins all = new ValveTwins();
        all.setValve(1, 0, 1);
        all.setSignal(1000);
        Check.due("in each of 500", all.run(500), 500);
    }

    private static void runOutOfRange() {
        Check.sentence("Promise 8", "Throws `IllegalArgumentException` if ticks is out of range");
        for (int ticks : new int[] {0, -1, 501, FAR[0], FAR[1]}) {
            Check.refused("run(" + ticks + ")", Check.BAD_VALUE, States::full, y -> y.run(ticks));
        }
    }

    private static void runTooLong() {
        Check.sentence("Promise 8", "Throws `IllegalStateException` if the time would be more than 200000");
        ValveTwins x = States.atTime(199499);
        Check.due("run(500) at 199499", x.run(500), 0);
        Check.due("time", x.pair(5), 199999);
        Check.due("run(1) at 199999", x.run(1), 0);
        Check.due("time", x.pair(5), 200000);
        Check.undoLeaves("a tick back", x, 3);
        Check.due("run(1) again", x.run(1), 0);
        Check.due("time", x.pair(5), 200000);
        Check.due("run(500) at 199500", States.atTime(199500).run(500), 0);
        Check.refused("run(500) at 199501", Check.BAD_STATE, () -> States.atTime(199501), y -> y.run(500));
        Check.refused("run(2) at 199999", Check.BAD_STATE, () -> States.atTime(199999), y -> y.run(2));
        Check.refused("run(1) at 200000", Check.BAD_STATE, States::atLast, y -> y.run(1));
        Check.refused("run(500) at 200000", Check.BAD_STATE, States::atLast, y -> y.run(500));
    }
}
