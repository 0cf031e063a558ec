/** Promises 9 to 13: the values that can be read. */
public final class ValuesTest {
    private static final int[] WRONG_VALVES = {-1, 2, Integer.MIN_VALUE, Integer.MAX_VALUE};

    public static void main(String[] args) {
        promise9();
        promise10();
        promise11();
        promise12();
        promise13();
        Check.finish();
    }

    private static ValveTwins moved() {
        ValveTwins x = new ValveTwins();
        x.setRange(0, 0, 250, true);
        x.setValve(0, 0, 400);
        x.setValve(0, 3, 500);
        x.setValve(1, 1, 5);
        x.setValve(1, 2, 6);
        x.setValve(1, 4, 1);
        x.setSignal(700);
        x.run(1);
        x.setSignal(50);
        x.run(2);
        x.service(1);
        return x;
    }

    private static void promise9() {
        ValveTwins x = moved();
        // The valve 0 rests at 700 (its demand is 0), and moves by 400 twice towards 800 at 50.
        Check.valveIs("moved", x, 0, 400, 10, 20, 500, 0, 0, 250, 1, 800, 800, 1, 1, 800, 0, 800, 0, 8, 0, 30, 400, 0);
        // The valve 1 goes to 400 and back to 0, and rests there in the last tick.
        Check.valveIs("moved", x, 1, 1000, 5, 6, 100, 1, 500, 1000, 0, 0, 0, -1, 0, 0, 0, 800, 1, 0, 11, 5, 0, 1);
        for (int valve : WRONG_VALVES) {
            Check.refused("valve(" + valve + ", 0)", x, Check.NO_VALVE, () -> x.valve(valve, 0));
            Check.refused("valve(" + valve + ", 21)", x, Check.NO_VALVE, () -> x.valve(valve, 21));
        }
        for (int what : new int[] {-1, 21, Integer.MIN_VALUE, Integer.MAX_VALUE}) {
            Check.refused("valve(1, " + what + ")", x, Check.BAD_VALUE, () -> x.valve(1, what));
        }
    }

    private static void promise10() {
        ValveTwins x = moved();
        x.tune(0, 1);
        x.tune(1, -3);
        x.tune(2, 44);
        x.tune(3, 5);
        // In the first tick the valve 1 lets 100 * 160 / 1000 through (16, its ideal is 16); then 200 and 400 of 400.
        Check.pairIs("moved", x, 50, 1, -3, 44, 5, 3, 400, 400, 616, 200, 0, 2);
        for (int what : new int[] {-1, 12, Integer.MIN_VALUE, Integer.MAX_VALUE}) {
            Check.refused("pair(" + what + ")", x, Check.BAD_VALUE, () -> x.pair(what));
        }
    }

    private static void promise11() {
        ValveTwins x = moved();
        Check.entryIs("moved", x, 0, 0, 0, 800, 0, 0);
        Check.entryIs("moved", x, 1, 1, 0, 800, 1, 0);
        Check.entryIs("none", x, 2, ValveTwins.NONE, ValveTwins.NONE, ValveTwins.NONE, ValveTwins.NONE, ValveTwins.NONE);
        Check.due("ledger(2147483647, 4)", x.ledger(Integer.MAX_VALUE, 4), ValveTwins.NONE);
        Check.refused("ledger(-1, 0)", x, Check.BAD_VALUE, () -> x.ledger(-1, 0));
        Check.refused("ledger(-2147483648, 0)", x, Check.BAD_VALUE, () -> x.ledger(Integer.MIN_VALUE, 0));
        for (int what : new int[] {-1, 5, Integer.MIN_VALUE, Integer.MAX_VALUE}) {
            Check.refused("ledger(0, " + what + ")", x, Check.BAD_VALUE, () -> x.ledger(0, what));
            Check.refused("ledger(99, " + what + ")", x, Check.BAD_VALUE, () -> x.ledger(99, what));
        }
    }

    private static void promise12() {
        ValveTwins x = moved();
        x.run(100);
        x.setSignal(800);
        x.run(2);
        // Day 0: 800; day 1: the falling valve 0 goes 800 down in two ticks and turns once.
        Check.due("ledgerSum(0, 2)", x.ledgerSum(0, 2), 1600);
        Check.due("ledgerSum(0, 3)", x.ledgerSum(0, 3), 1);
        Check.due("ledgerSum(0, 4)", x.ledgerSum(0, 4), 0);
        Check.due("ledgerSum(1, 2)", x.ledgerSum(1, 2), 1400);
        Check.due("ledgerSum(1, 3)", x.ledgerSum(1, 3), 2);
        x.setSignal(0);
        x.run(500);
        x.run(500);
        Check.due("dropped entries do not count", x.ledgerSum(0, 2), 0);
        for (int valve : WRONG_VALVES) {
            Check.refused("ledgerSum(" + valve + ", 2)", x, Check.NO_VALVE, () -> x.ledgerSum(valve, 2));
            Check.refused("ledgerSum(" + valve + ", 9)", x, Check.NO_VALVE, () -> x.ledgerSum(valve, 9));
        }
        for (int what : new int[] {-1, 0, 1, 5, Integer.MIN_VALUE, Integer.MAX_VALUE}) {
            Check.refused("ledgerSum(0, " + what + ")", x, Check.BAD_VALUE, () -> x.ledgerSum(0, what));
        }
        leakSum();
    }

    private static void leakSum() {
        ValveTwins x = new ValveTwins();
        x.setValve(1, 2, 0);
        for (int swing = 0; swing < 4; swing++) {
            x.setSignal(swing % 2 == 0 ? 1000 : 0);
            x.run(1);
        }
        x.run(100);
        // The wear is 23 after the second move (a leak of 1), 49 from the fourth on (101 leaks of 2).
        Check.due("ledgerSum(1, 4)", x.ledgerSum(1, 4), 203);
    }

    private static void promise13() {
        ValveTwins x = new ValveTwins();
        Check.dueDouble("meanFlow() at time 0", x.meanFlow(), -1.0);
        x.setSignal(500);
        Check.dueDouble("meanFlow() still at time 0", x.meanFlow(), -1.0);
        x.run(1);
        Check.dueDouble("meanFlow() at time 1", x.meanFlow(), 100.0);
        x.setSignal(250);
        x.run(2);
        Check.dueDouble("meanFlow() at time 3", x.meanFlow(), 200.0 / 3.0);
        Check.undoLeaves("meanFlow", x, 3);
        Check.dueDouble("meanFlow() after undo", x.meanFlow(), 100.0);
    }
}
