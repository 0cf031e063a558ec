/** Promises 9 to 13: the values that can be read. */
public final class ValuesTest {
    private static final int NONE = ValveTwins.NONE;
    private static final int[] FAR = {Integer.MIN_VALUE, Integer.MAX_VALUE};

    public static void main(String[] args) {
        valveWhat();
        valveWhatOfTheOther();
        valveServices();
        valveNoValve();
        valveOutOfRange();
        pairWhat();
        pairOutOfRange();
        ledgerEntry();
        ledgerWhat();
        ledgerNone();
        ledgerOutOfRange();
        ledgerSumOfKept();
        ledgerSumWhat();
        ledgerSumOfLeaks();
        ledgerSumValve();
        ledgerSumNoValve();
        ledgerSumOutOfRange();
        meanFlowAtTimeZero();
        meanFlowDivides();
        readingChangesNothing();
        Check.finish();
    }

    private static ValveTwins moved() {
        ValveTwins x = new ValveTwins();
        x.setRange(0, 0, 250, true);
        x.setValve(0, 0, 400);
        x.setValve(0, 3, 500);
        x.setValve(1, 1, 5);
        x.setValve(1, 2, 6);
        x.setValve(1, 4, 1);
        x.setSignal(700);
        x.run(1);
        x.setSignal(50);
        x.run(2);
        x.service(1);
        return x;
    }

    // ---- promise 9

    private static void valveWhat() {
        Check.sentence("Promise 9", "`what`: 0 to 4 as for setValve(), 5 a, 6 b, 7 1 if it is falling or 0 if not, "
            + "8 demand, 9 position, 10 last way, 11 1 if it is running or 0 if at rest, 12 travel and 13 reversals "
            + "since the latest service, 14 travel and 15 reversals in all, 16 wear, 17 threshold for the way up and 18 "
            + "for the way down, 19 flow, 20 services so far");
        ValveTwins x = moved();
        // The valve 0 rests at 700 (its demand is 0), and moves by 400 twice towards 800 at 50.
        Check.valveIs("moved", x, 0, 400, 10, 20, 500, 0, 0, 250, 1, 800, 800, 1, 1, 800, 0, 800, 0, 8, 0, 30, 400, 0);
        // The valve 1 goes to 400 and back to 0, and rests there in the last tick.
        Check.valveIs("moved", x, 1, 1000, 5, 6, 100, 1, 500, 1000, 0, 0, 0, -1, 0, 0, 0, 800, 1, 0, 11, 5, 0, 1);
    }

    private static void valveWhatOfTheOther() {
        Check.sentence("Promise 9", "`valve`: 0 or 1");
        ValveTwins x = new ValveTwins();
        x.setRange(1, 0, 250, true);
        x.setRange(0, 500, 1000, false);
        x.setValve(1, 0, 400);
        x.setValve(1, 3, 500);
        x.setSignal(50);
        x.run(2);
        Check.valveIs("moved", x, 1, 400, 10, 20, 500, 0, 0, 250, 1, 800, 800, 1, 1, 800, 0, 800, 0, 8, 0, 30, 400, 0);
        Check.valveIs("still", x, 0, 1000, 10, 20, 100, 0, 500, 1000, 0, 0, 0, 0, 0, 0, 0, 0, 0, 0, 10, 10, 0, 0);
    }

    private static void valveServices() {
        Check.sentence("Promise 9", "20 services so far");
        ValveTwins x = new ValveTwins();
        for (int services = 1; services <= 5; services++) {
            x.service(1);
            Check.due("services of the valve 1", x.valve(1, 20), services);
            Check.due("services of the valve 0", x.valve(0, 20), 0);
        }
        x.undo();
        Check.due("services behind undo()", x.valve(1, 20), 4);
    }

    private static void valveNoValve() {
        Check.sentence("Promise 9", "Throws `IndexOutOfBoundsException` if there is no such valve");
        for (int valve : Check.WRONG_VALVES) {
            Check.refused("valve(" + valve + ", 0)", Check.NO_VALVE, States::busy, x -> x.valve(valve, 0));
            Check.refused("valve(" + valve + ", 20)", Check.NO_VALVE, States::busy, x -> x.valve(valve, 20));
        }
    }

    private static void valveOutOfRange() {
        Check.sentence("Promise 9", "Throws `IllegalArgumentException` if what is out of range");
        for (int what : new int[] {-1, 21, FAR[0], FAR[1]}) {
            Check.refused("valve(0, " + what + ")", Check.BAD_VALUE, States::busy, x -> x.valve(0, what));
            Check.refused("valve(1, " + what + ")", Check.BAD_VALUE, States::busy, x -> x.valve(1, what));
        }
    }

    // ---- promise 10

    private static void pairWhat() {
        Check.sentence("Promise 10", "`what`: 0 signal, 1 to 4 the settings 0 to 3 of the controller, 5 time, 6 flow, "
            + "7 ideal flow for the signal, 8 volume, 9 missed volume, 10 leaked volume, 11 entries of the ledger");
        ValveTwins x = moved();
        x.tune(0, 1);
        x.tune(1, -3);
        x.tune(2, 44);
        x.tune(3, 5);
        // In the first tick the valve 1 lets 100 * 160 / 1000 through (16, its ideal is 16); then 200 and 400 of 400.
        Check.pairIs("moved", x, 50, 1, -3, 44, 5, 3, 400, 400, 616, 200, 0, 2);
        ValveTwins busy = States.busy();
        busy.setSignal(250);
        // Of the sizes 400 and 700, with the openings 172 of 90 and 51 of 228.
        Check.due("position", busy.valve(0, 9), 90);
        Check.due("position", busy.valve(1, 9), 228);
        Check.due("flow", busy.pair(6), 68 + 35);
        // The demand of the valve 0 falls to 750, that of the valve 1 is 0.
        Check.due("ideal flow", busy.pair(7), 375);
        Check.due("entries", busy.pair(11), 12);
    }

    private static void pairOutOfRange() {
        Check.sentence("Promise 10", "Throws `IllegalArgumentException` if what is out of range");
        for (int what : new int[] {-1, 12, FAR[0], FAR[1]}) {
            Check.refused("pair(" + what + ")", Check.BAD_VALUE, States::busy, x -> x.pair(what));
        }
    }

    // ---- promise 11

    private static void ledgerEntry() {
        Check.sentence("Promise 11", "`entry`: 0 for the one that was made first of those that are kept, and so on");
        ValveTwins x = moved();
        Check.entryIs("the first", x, 0, 0, 0, 800, 0, 0);
        Check.entryIs("the last", x, 1, 1, 0, 800, 1, 0);
        x.run(500);
        x.run(97);
        Check.entryIs("the first of 12", x, 0, 0, 0, 800, 0, 0);
        Check.entryIs("the last of 12", x, 11, 1, 5, 0, 0, 0);
        x.run(1);
        Check.entryIs("the first that is kept", x, 0, 0, 1, 0, 0, 0);
        Check.entryIs("the last", x, 11, 1, 6, 0, 0, 0);
    }

    private static void ledgerWhat() {
        Check.sentence("Promise 11", "`what`: 0 valve, 1 day, 2 travel, 3 reversals, 4 leaked flow");
        ValveTwins x = new ValveTwins();
        x.setRange(1, 0, 500, false);
        x.run(100);
        for (int swing = 0; swing < 4; swing++) {
            x.setSignal(swing % 2 == 0 ? 500 : 0);
            x.run(1);
        }
        x.setRange(0, 500, 1000, true);
        x.run(1);
        // Both swing and leak alike (1 behind the second move, 2 behind the fourth), then the valve 0 goes up again.
        Check.entryIs("the day 0", x, 0, 0, 0, 0, 0, 0);
        Check.entryIs("the day 0", x, 1, 1, 0, 0, 0, 0);
        Check.entryIs("the day 1", x, 2, 0, 1, 5000, 4, 3);
        Check.entryIs("the day 1", x, 3, 1, 1, 4000, 3, 5);
    }

    private static void ledgerNone() {
        Check.sentence("Promise 11", "Returns that value; NONE if there are not so many.");
        for (int what = 0; what <= 4; what++) {
            ValveTwins x = new ValveTwins();
            Check.due("an empty ledger, entry 0", x.ledger(0, what), NONE);
            Check.due("an empty ledger, entry 11", x.ledger(11, what), NONE);
            x.run(1);
            Check.due("a ledger of two, entry 2", x.ledger(2, what), NONE);
            Check.count(x.ledger(1, what) != NONE, "a ledger of two has no entry 1");
            x.run(500);
            Check.count(x.ledger(11, what) != NONE, "a ledger of 12 has no entry 11");
            Check.due("a ledger of 12, entry 12", x.ledger(12, what), NONE);
            x.run(500);
            Check.due("a full ledger, entry 12", x.ledger(12, what), NONE);
            Check.due("a full ledger, entry 13", x.ledger(13, what), NONE);
            Check.due("a full ledger, a far entry", x.ledger(FAR[1], what), NONE);
        }
    }

    private static void ledgerOutOfRange() {
        Check.sentence("Promise 11", "Throws `IllegalArgumentException` if entry is negative, or what is out of range");
        for (int entry : new int[] {-1, -2, FAR[0]}) {
            Check.refused("ledger(" + entry + ", 0)", Check.BAD_VALUE, States::busy, x -> x.ledger(entry, 0));
            Check.refused("ledger(" + entry + ", 5)", Check.BAD_VALUE, States::busy, x -> x.ledger(entry, 5));
        }
        for (int what : new int[] {-1, 5, FAR[0], FAR[1]}) {
            Check.refused("ledger(0, " + what + ")", Check.BAD_VALUE, States::busy, x -> x.ledger(0, what));
            Check.refused("ledger(99, " + what + ")", Check.BAD_VALUE, States::busy, x -> x.ledger(99, what));
            Check.refused("of none, ledger(0, " + what + ")", Check.BAD_VALUE, States::fresh, x -> x.ledger(0, what));
        }
    }

    // ---- promise 12

    private static void ledgerSumOfKept() {
        Check.sentence("Promise 12", "Returns the sum of a value over the entries of the ledger of a valve that are kept.");
        ValveTwins x = moved();
        x.run(100);
        x.setSignal(800);
        x.run(2);
        // Day 0: 800; day 1: the falling valve 0 goes 800 down in two ticks and turns once.
        Check.due("ledgerSum(0, 2)", x.ledgerSum(0, 2), 1600);
        Check.due("ledgerSum(0, 3)", x.ledgerSum(0, 3), 1);
        Check.due("ledgerSum(1, 2)", x.ledgerSum(1, 2), 1400);
        Check.due("ledgerSum(1, 3)", x.ledgerSum(1, 3), 2);
        x.run(495);
        Check.due("ledgerSum(1, 2) of 6 days", x.ledgerSum(1, 2), 1400);
        x.run(1);
        Check.due("the first day has gone", x.ledgerSum(1, 2), 600);
        Check.due("and its reversal", x.ledgerSum(1, 3), 1);
        Check.due("and that of the valve 0", x.ledgerSum(0, 2), 800);
        x.run(100);
        Check.due("both have gone", x.ledgerSum(1, 2), 0);
        Check.due("but not the travel in all", x.valve(1, 14), 1400);
    }

    private static void ledgerSumWhat() {
        Check.sentence("Promise 12", "`what`: 2 travel, 3 reversals, 4 leaked flow");
        ValveTwins x = new ValveTwins();
        for (int valve = 0; valve <= 1; valve++) {
            for (int what = 2; what <= 4; what++) {
                Check.due("of an empty ledger", x.ledgerSum(valve, what), 0);
            }
        }
        x.setSignal(1000);
        x.run(1);
        x.setSignal(700);
        x.run(1);
        Check.due("travel of the valve 0", x.ledgerSum(0, 2), 1000);
        Check.due("travel of the valve 1", x.ledgerSum(1, 2), 1600);
        Check.due("reversals of the valve 0", x.ledgerSum(0, 3), 0);
        Check.due("reversals of the valve 1", x.ledgerSum(1, 3), 1);
        Check.due("leaks of the valve 0", x.ledgerSum(0, 4), 0);
        Check.due("leaks of the valve 1", x.ledgerSum(1, 4), 0);
    }

    private static void ledgerSumOfLeaks() {
        Check.sentence("Promise 12", "4 leaked flow");
        ValveTwins x = new ValveTwins();
        x.setValve(1, 2, 0);
        for (int swing = 0; swing < 4; swing++) {
            x.setSignal(swing % 2 == 0 ? 1000 : 0);
            x.run(1);
        }
        x.run(100);
        // The wear is 23 after the second move (a leak of 1), 49 from the fourth on (101 leaks of 2).
        Check.due("ledgerSum(1, 4)", x.ledgerSum(1, 4), 203);
        // The valve 0 turns against its extra stick, which changes nothing here: it leaks like the other one.
        Check.due("ledgerSum(0, 4)", x.ledgerSum(0, 4), 203);
    }

    private static void ledgerSumValve() {
        Check.sentence("Promise 12", "`valve`: 0 or 1");
        ValveTwins x = new ValveTwins();
        x.setSignal(300);
        x.run(1);
        Check.due("ledgerSum(0, 2)", x.ledgerSum(0, 2), 600);
        Check.due("ledgerSum(1, 2)", x.ledgerSum(1, 2), 0);
        x.setSignal(600);
        x.run(1);
        Check.due("ledgerSum(0, 2)", x.ledgerSum(0, 2), 1000);
        Check.due("ledgerSum(1, 2)", x.ledgerSum(1, 2), 200);
        Check.refused("ledgerSum(-1, 2)", Check.NO_VALVE, States::busy, y -> y.ledgerSum(-1, 2));
        Check.refused("ledgerSum(2, 2)", Check.NO_VALVE, States::busy, y -> y.ledgerSum(2, 2));
    }

    private static void ledgerSumNoValve() {
        Check.sentence("Promise 12", "Throws `IndexOutOfBoundsException` if there is no such valve");
        for (int valve : Check.WRONG_VALVES) {
            Check.refused("ledgerSum(" + valve + ", 2)", Check.NO_VALVE, States::busy, x -> x.ledgerSum(valve, 2));
        }
    }

    private static void ledgerSumOutOfRange() {
        Check.sentence("Promise 12", "Throws `IllegalArgumentException` if what is out of range");
        for (int what : new int[] {-1, 0, 1, 5, FAR[0], FAR[1]}) {
            Check.refused("ledgerSum(0, " + what + ")", Check.BAD_VALUE, States::busy, x -> x.ledgerSum(0, what));
            Check.refused("of none, ledgerSum(1, " + what + ")", Check.BAD_VALUE, States::fresh, x -> x.ledgerSum(1, what));
        }
    }

    // ---- promise 13

    private static void meanFlowAtTimeZero() {
        Check.sentence("Promise 13", "-1.0 at time 0.");
        ValveTwins x = new ValveTwins();
        Check.dueDouble("meanFlow() at time 0", x.meanFlow(), -1.0);
        x.putStem(0, 500);
        Check.dueDouble("meanFlow() with a flow", x.meanFlow(), -1.0);
        x.run(1);
        Check.count(x.meanFlow() != -1.0, "meanFlow() at time 1 is -1.0");
        Check.undoLeaves("meanFlow()", x, 1);
        Check.dueDouble("meanFlow() back at time 0", x.meanFlow(), -1.0);
    }

    private static void meanFlowDivides() {
        Check.sentence("Promise 13", "Returns the volume, converted to double, divided by the time, converted to double");
        ValveTwins x = new ValveTwins();
        x.run(1);
        Check.dueDouble("nothing at time 1", x.meanFlow(), 0.0);
        x.setSignal(500);
        x.run(1);
        Check.dueDouble("meanFlow() at time 2", x.meanFlow(), 50.0);
        x.setSignal(250);
        x.run(4);
        Check.dueDouble("meanFlow() at time 6", x.meanFlow(), 300.0 / 6.0);
        x.run(1);
        Check.dueDouble("meanFlow() at time 7", x.meanFlow(), 350.0 / 7.0);
        x.setSignal(1000);
        x.run(1);
        Check.dueDouble("meanFlow() at time 8", x.meanFlow(), 68.75);
        x.run(1);
        Check.dueDouble("meanFlow() at time 9", x.meanFlow(), 750.0 / 9.0);
        Check.undoLeaves("meanFlow()", x, 3);
        Check.dueDouble("meanFlow() behind undo()", x.meanFlow(), 68.75);
        ValveTwins last = States.atTime(199999);
        last.putStem(0, 1000);
        last.setSignal(500);
        last.run(1);
        Check.dueDouble("meanFlow() at time 200000", last.meanFlow(), 100.0 / 200000.0);
    }

    private static void readingChangesNothing() {
        Check.sentence("Not promised", "Nothing is promised beyond the answers and state changes described above");
        Check.changesNothing("all values", States::busy, x -> {
            for (int what = 0; what <= 20; what++) {
                x.valve(0, what);
                x.valve(1, what);
            }
            for (int what = 0; what <= 11; what++) {
                x.pair(what);
            }
            for (int what = 2; what <= 4; what++) {
                x.ledger(0, what);
                x.ledger(12, what);
                x.ledgerSum(0, what);
                x.ledgerSum(1, what);
            }
            x.meanFlow();
        });
    }
}
