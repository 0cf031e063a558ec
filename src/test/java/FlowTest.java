/** Terms: openings, flows, leaks and the ideal flow. In plain() the demand of the valve 0 is the signal. */
public final class FlowTest {
    public static void main(String[] args) {
        atFirst();
        openings();
        flowFloors();
        sizeEnds();
        leakByWear();
        leakBySize();
        leakAtZeroAlone();
        pairFlow();
        idealFlow();
        idealWithoutLeak();
        Check.finish();
    }

    private static ValveTwins with(int valve, int characteristic, int size, int position) {
        ValveTwins x = new ValveTwins();
        x.setValve(valve, 4, characteristic);
        x.setValve(valve, 3, size);
        x.putStem(valve, position);
        return x;
    }

    private static void atFirst() {
        Check.sentence("Terms", "A valve has a size c (0 to 1000, 100 at first) and a characteristic: 0 (at first) "
            + "the opening is s, 1 it is floor(s * s / 1000), 2 it is 1000 - floor((1000 - s) * (1000 - s) / 1000).");
        for (int valve = 0; valve <= 1; valve++) {
            ValveTwins x = new ValveTwins();
            Check.due("size", x.valve(valve, 3), 100);
            Check.due("characteristic", x.valve(valve, 4), 0);
            x.putStem(valve, 1000);
            Check.due("flow at 1000", x.valve(valve, 19), 100);
            x.putStem(valve, 509);
            Check.due("flow at 509", x.valve(valve, 19), 50);
        }
    }

    /** With the size 1000 the flow is the opening, but at 0. */
    private static void openings() {
        Check.sentence("Terms", "0 (at first) the opening is s, 1 it is floor(s * s / 1000), 2 it is "
            + "1000 - floor((1000 - s) * (1000 - s) / 1000).");
        int[][] rows = {{1, 1, 0, 2}, {2, 2, 0, 4}, {31, 31, 0, 62}, {32, 32, 1, 63}, {500, 500, 250, 750},
            {501, 501, 251, 751}, {707, 707, 499, 915}, {708, 708, 501, 915}, {968, 968, 937, 999},
            {969, 969, 938, 1000}, {999, 999, 998, 1000}, {1000, 1000, 1000, 1000}};
        for (int[] row : rows) {
            for (int kind = 0; kind <= 2; kind++) {
                for (int valve = 0; valve <= 1; valve++) {
                    ValveTwins x = with(valve, kind, 1000, row[0]);
                    String where = "opening of the kind " + kind + " at " + row[0];
                    Check.due(where, x.valve(valve, 19), row[1 + kind]);
                    Check.due(where + " in the pair", x.pair(6), row[1 + kind]);
                }
            }
        }
    }

    private static void flowFloors() {
        Check.sentence("Terms", "Its flow is floor(c * opening / 1000) if s is above 0");
        int[][] rows = {{0, 999, 1, 0}, {0, 1000, 1, 1}, {0, 7, 142, 0}, {0, 7, 143, 1}, {0, 7, 999, 6}, {0, 7, 1000, 7},
            {1, 7, 700, 3}, {2, 7, 700, 6}, {1, 1000, 31, 0}, {2, 499, 1, 0}, {2, 500, 1, 1}, {0, 1, 999, 0},
            {0, 1, 1000, 1}};
        for (int[] row : rows) {
            ValveTwins x = with(1, row[0], row[1], row[2]);
            Check.due("kind " + row[0] + ", size " + row[1] + " at " + row[2], x.valve(1, 19), row[3]);
        }
    }

    private static void sizeEnds() {
        Check.sentence("Terms", "A valve has a size c (0 to 1000, 100 at first)");
        Check.due("the size 0 at 1000", with(0, 0, 0, 1000).valve(0, 19), 0);
        Check.due("the size 0 at 1000, kind 2", with(0, 2, 0, 1000).valve(0, 19), 0);
        Check.due("the size 1 at 1000", with(0, 0, 1, 1000).valve(0, 19), 1);
        Check.due("the size 1000 at 1000", with(0, 1, 1000, 1000).valve(0, 19), 1000);
        ValveTwins x = with(0, 0, 1000, 1000);
        x.setValve(1, 3, 1000);
        x.putStem(1, 1000);
        Check.due("the greatest flow of the pair", x.pair(6), 2000);
    }

    /** Up and down by 1000, without sticks: 10 for the travel of each move, and 3 for each but the first. */
    private static ValveTwins swung(int moves) {
        ValveTwins x = States.plain();
        x.setRange(0, 0, 500, false);
        x.setValve(0, 1, 0);
        x.setValve(0, 2, 0);
        for (int move = 0; move < moves; move++) {
            x.setSignal(move % 2 == 0 ? 500 : 0);
            x.run(1);
        }
        return x;
    }

    /** A stem at 0 with the wear given, from moves up alone. */
    private static ValveTwins leaky(int wear) {
        ValveTwins x = States.plain();
        x.setSignal(500);
        x.setValve(0, 0, 100);
        for (int left = wear; left > 0; left -= 5) {
            x.putStem(0, 0);
            x.run(Math.min(left, 5));
        }
        x.putStem(0, 0);
        Check.due("wear", x.valve(0, 16), wear);
        return x;
    }

    private static void leakByWear() {
        Check.sentence("Terms", "if s is 0, it leaks: the smaller one of c and floor(wear / 20).");
        int[][] rows = {{0, 0}, {1, 0}, {19, 0}, {20, 1}, {21, 1}, {39, 1}, {40, 2}, {59, 2}, {60, 3}};
        for (int[] row : rows) {
            ValveTwins x = leaky(row[0]);
            Check.due("leak of the wear " + row[0], x.valve(0, 19), row[1]);
            Check.due("flow of the pair of the wear " + row[0], x.pair(6), row[1]);
            for (int kind = 1; kind <= 2; kind++) {
                x.setValve(0, 4, kind);
                Check.due("leak of the kind " + kind, x.valve(0, 19), row[1]);
            }
        }
        Check.due("leak of 3 reversals and 4000", swung(4).valve(0, 19), 2);
        ValveTwins x = leaky(40);
        x.service(0);
        Check.due("leak behind a service", x.valve(0, 19), 0);
    }

    private static void leakBySize() {
        Check.sentence("Terms", "the smaller one of c and floor(wear / 20)");
        ValveTwins x = leaky(60);
        int[][] rows = {{0, 0}, {1, 1}, {2, 2}, {3, 3}, {4, 3}, {1000, 3}};
        for (int[] row : rows) {
            x.setValve(0, 3, row[0]);
            Check.due("leak of the size " + row[0], x.valve(0, 19), row[1]);
        }
    }

    private static void leakAtZeroAlone() {
        Check.sentence("Terms", "if s is above 0; if s is 0, it leaks");
        ValveTwins x = leaky(60);
        x.putStem(0, 1);
        Check.due("flow at 1 of the size 100", x.valve(0, 19), 0);
        x.setValve(0, 3, 1000);
        Check.due("flow at 1 of the size 1000", x.valve(0, 19), 1);
        x.putStem(0, 0);
        Check.due("flow at 0", x.valve(0, 19), 3);
    }

    private static void pairFlow() {
        Check.sentence("Terms", "The flow of the pair is the sum of both.");
        ValveTwins x = leaky(60);
        x.putStem(1, 700);
        Check.due("a leak and a flow", x.pair(6), 73);
        x.putStem(0, 200);
        Check.due("two flows", x.pair(6), 90);
        // Of 199 and 709 the floors are 19 and 70: each flow is floored alone.
        x.putStem(0, 199);
        x.putStem(1, 709);
        Check.due("two floors", x.pair(6), 89);
    }

    private static void idealFlow() {
        Check.sentence("Terms", "The ideal flow for a signal is the sum of what both valves would have if their stems "
            + "were at the demands for it");
        ValveTwins x = States.busy();
        x.setRange(0, 0, 1000, false);
        x.setRange(1, 0, 500, true);
        // The sizes are 400 and 700, the characteristics 2 and 1.
        int[][] rows = {{0, 0 + 700}, {1, 0 + 697}, {250, 175 + 175}, {499, 299 + 0}, {500, 300 + 0}, {1000, 400 + 0}};
        for (int[] row : rows) {
            Check.due("idealFlow(" + row[0] + ")", x.idealFlow(row[0]), row[1]);
            x.setSignal(row[0]);
            Check.due("pair(7) at " + row[0], x.pair(7), row[1]);
        }
    }

    private static void idealWithoutLeak() {
        Check.sentence("Terms", "(also for a demand of 0: no leak, but 0)");
        ValveTwins x = leaky(60);
        x.setSignal(0);
        Check.due("it leaks", x.pair(6), 3);
        Check.due("ideal flow for 0", x.pair(7), 0);
        Check.due("idealFlow(0)", x.idealFlow(0), 0);
        for (int kind = 1; kind <= 2; kind++) {
            x.setValve(0, 4, kind);
            Check.due("idealFlow(0) of the kind " + kind, x.idealFlow(0), 0);
        }
        x.setRange(0, 0, 1000, true);
        Check.due("idealFlow(1000) of a falling one", x.idealFlow(1000), 100);
        x.setRange(1, 999, 1000, true);
        Check.due("both fall to 0", x.idealFlow(1000), 0);
    }
}
