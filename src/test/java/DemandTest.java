/** Terms: whole numbers, ranges, the signal and the demands. */
public final class DemandTest {
    public static void main(String[] args) {
        floor();
        bringIntoRange();
        signal();
        twoValves();
        rangeAtFirst();
        rangeEnds();
        demandRising();
        demandFalling();
        demandNarrowest();
        demandWidest();
        demandOverlap();
        Check.finish();
    }

    /** By how much the controller changes the signal 500, with the flow of the pair given. */
    private static int change(int gain, int wanted, int flow) {
        ValveTwins x = States.plain();
        x.setValve(0, 3, 1000);
        x.putStem(0, flow);
        x.setSignal(500);
        x.tune(1, gain);
        x.tune(2, wanted);
        x.tune(0, 1);
        x.run(1);
        return x.pair(0) - 500;
    }

    private static void floor() {
        Check.sentence("Terms", "floor(a / b) rounds towards minus infinity.");
        int[][] rows = {{1, 0, 1, -1}, {1, 0, 999, -1}, {1, 0, 1000, -1}, {1001, 0, 1, -2}, {1000, 0, 1, -1},
            {999, 0, 1, -1}, {-1, 0, 1, 0}, {-999, 0, 1, 0}, {-1000, 0, 1, 1}, {-1999, 0, 1, 1}, {-2000, 0, 1, 2},
            {999, 1, 0, 0}, {1000, 1, 0, 1}, {1999, 1, 0, 1}, {2000, 1, 0, 2}, {-1, 1, 0, -1}, {-1000, 1, 0, -1},
            {-1001, 1, 0, -2}, {0, 1, 0, 0}, {0, 2000, 0, 0}, {777, 5, 5, 0}};
        for (int[] row : rows) {
            String call = "floor(" + row[0] + " * (" + row[1] + " - " + row[2] + ") / 1000)";
            Check.due(call, change(row[0], row[1], row[2]), row[3]);
        }
    }

    private static int demand(ValveTwins x, int valve, int signal) {
        x.setSignal(signal);
        return x.valve(valve, 8);
    }

    private static void bringIntoRange() {
        Check.sentence("Terms", "To bring a number into a range means: if it is below the least number of the range, "
            + "it becomes that; if it is above the greatest one, that.");
        ValveTwins x = new ValveTwins();
        x.setRange(0, 300, 400, false);
        // floor(1000 * (u - 300) / 100) is -3000, -10, 0, 10, 990, 1000, 1010 and 7000 for these.
        int[][] rows = {{0, 0}, {299, 0}, {300, 0}, {301, 10}, {399, 990}, {400, 1000}, {401, 1000}, {1000, 1000}};
        for (int[] row : rows) {
            Check.due("demand for " + row[0], demand(x, 0, row[0]), row[1]);
        }
    }

    private static void signal() {
        Check.sentence("Terms", "The signal u is from 0 to 1000 (0 at first).");
        ValveTwins x = new ValveTwins();
        Check.due("signal at first", x.pair(0), 0);
        Check.due("the least one", x.setSignal(0), 0);
        Check.due("the greatest one", x.setSignal(1000), 0);
        Check.due("signal", x.pair(0), 1000);
        Check.refused("one less", Check.BAD_VALUE, States::busy, y -> y.setSignal(-1));
        Check.refused("one more", Check.BAD_VALUE, States::busy, y -> y.setSignal(1001));
    }

    private static void twoValves() {
        Check.sentence("Terms", "There are two valves, 0 and 1.");
        ValveTwins x = new ValveTwins();
        x.putStem(0, 30);
        x.putStem(1, 40);
        Check.due("the valve 0", x.valve(0, 9), 30);
        Check.due("the valve 1", x.valve(1, 9), 40);
        Check.refused("no valve -1", Check.NO_VALVE, States::busy, y -> y.valve(-1, 9));
        Check.refused("no valve 2", Check.NO_VALVE, States::busy, y -> y.valve(2, 9));
    }

    private static void rangeAtFirst() {
        Check.sentence("Terms", "A valve has a range from a to b (0 to 1000, a less than b; 0 to 500 for the valve 0, "
            + "500 to 1000 for the valve 1 at first), and is rising (at first) or falling.");
        int[][] rows = {{0, 0, 0}, {1, 2, 0}, {499, 998, 0}, {500, 1000, 0}, {501, 1000, 2}, {502, 1000, 4},
            {999, 1000, 998}, {1000, 1000, 1000}};
        ValveTwins x = new ValveTwins();
        for (int[] row : rows) {
            Check.due("demand of the valve 0 for " + row[0], demand(x, 0, row[0]), row[1]);
            Check.due("demand of the valve 1 for " + row[0], demand(x, 1, row[0]), row[2]);
        }
    }

    private static void rangeEnds() {
        Check.sentence("Terms", "a less than b");
        ValveTwins x = new ValveTwins();
        x.setRange(0, 0, 1000, false);
        x.setRange(1, 0, 1000, true);
        Check.valveIs("the widest", x, 0, 1000, 10, 20, 100, 0, 0, 1000, 0);
        Check.valveIs("the widest", x, 1, 1000, 10, 20, 100, 0, 0, 1000, 1);
        x.setRange(0, 700, 701, true);
        Check.valveIs("1 wide", x, 0, 1000, 10, 20, 100, 0, 700, 701, 1);
        Check.refused("a is b", Check.BAD_VALUE, States::busy, y -> y.setRange(0, 700, 700, false));
        Check.refused("a is above b", Check.BAD_VALUE, States::busy, y -> y.setRange(0, 701, 700, false));
    }

    private static void demandRising() {
        Check.sentence("Terms", "The demand of a valve for a signal u is floor(1000 * (u - a) / (b - a)), "
            + "brought into the range 0 to 1000");
        int[][] rows = {{0, 0}, {332, 0}, {333, 0}, {334, 142}, {335, 285}, {336, 428}, {337, 571}, {338, 714},
            {339, 857}, {340, 1000}, {341, 1000}, {1000, 1000}};
        for (int valve = 0; valve <= 1; valve++) {
            ValveTwins x = new ValveTwins();
            x.setRange(valve, 333, 340, false);
            for (int[] row : rows) {
                Check.due("rising demand for " + row[0], demand(x, valve, row[0]), row[1]);
            }
        }
    }

    private static void demandFalling() {
        Check.sentence("Terms", "of a falling valve it is 1000 minus this.");
        int[][] rows = {{0, 1000}, {332, 1000}, {333, 1000}, {334, 858}, {335, 715}, {336, 572}, {337, 429},
            {338, 286}, {339, 143}, {340, 0}, {341, 0}, {1000, 0}};
        for (int valve = 0; valve <= 1; valve++) {
            ValveTwins x = new ValveTwins();
            x.setRange(valve, 333, 340, true);
            for (int[] row : rows) {
                Check.due("falling demand for " + row[0], demand(x, valve, row[0]), row[1]);
            }
        }
    }

    private static void demandNarrowest() {
        Check.sentence("Terms", "floor(1000 * (u - a) / (b - a))");
        ValveTwins x = new ValveTwins();
        x.setRange(0, 0, 1, false);
        x.setRange(1, 999, 1000, false);
        int[][] rows = {{0, 0, 0}, {1, 1000, 0}, {2, 1000, 0}, {998, 1000, 0}, {999, 1000, 0}, {1000, 1000, 1000}};
        for (int[] row : rows) {
            Check.due("0 to 1, demand for " + row[0], demand(x, 0, row[0]), row[1]);
            Check.due("999 to 1000, demand for " + row[0], demand(x, 1, row[0]), row[2]);
        }
    }

    private static void demandWidest() {
        Check.sentence("Terms", "floor(1000 * (u - a) / (b - a))");
        ValveTwins x = new ValveTwins();
        x.setRange(0, 0, 1000, false);
        x.setRange(1, 1, 1000, false);
        // Of 999 signals, the share of u - 1 is a little more than u - 1: it is floored to that but at the end.
        int[][] rows = {{0, 0, 0}, {1, 1, 0}, {2, 2, 1}, {500, 500, 499}, {999, 999, 998}, {1000, 1000, 1000}};
        for (int[] row : rows) {
            Check.due("0 to 1000, demand for " + row[0], demand(x, 0, row[0]), row[1]);
            Check.due("1 to 1000, demand for " + row[0], demand(x, 1, row[0]), row[2]);
        }
    }

    private static void demandOverlap() {
        Check.sentence("What it is", "demands by ranges that may overlap or fall");
        ValveTwins x = new ValveTwins();
        x.setRange(0, 0, 600, true);
        x.setRange(1, 400, 1000, false);
        int[][] rows = {{0, 1000, 0}, {399, 335, 0}, {400, 334, 0}, {401, 332, 1}, {599, 2, 331}, {600, 0, 333},
            {601, 0, 335}, {1000, 0, 1000}};
        for (int[] row : rows) {
            Check.due("falling to 600, demand for " + row[0], demand(x, 0, row[0]), row[1]);
            Check.due("rising from 400, demand for " + row[0], demand(x, 1, row[0]), row[2]);
        }
    }
}
