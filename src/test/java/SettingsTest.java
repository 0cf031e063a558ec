/** Promises 1 to 7: a new object, and the calls that set something. */
public final class SettingsTest {
    private static final int[] WRONG_VALVES = {-1, 2, Integer.MIN_VALUE, Integer.MAX_VALUE};

    public static void main(String[] args) {
        promise1();
        promise2Answers();
        promise2Demands();
        promise2Refusals();
        promise3();
        promise3Refusals();
        promise4();
        promise5();
        promise6();
        promise7();
        Check.finish();
    }

    private static void promise1() {
        ValveTwins x = new ValveTwins();
        Check.pairIs("new", x, 0, 0, 100, 0, 1000, 0, 0, 0, 0, 0, 0, 0);
        Check.valveIs("new", x, 0, 1000, 10, 20, 100, 0, 0, 500, 0, 0, 0, 0, 0, 0, 0, 0, 0, 0, 10, 10, 0, 0);
        Check.valveIs("new", x, 1, 1000, 10, 20, 100, 0, 500, 1000, 0, 0, 0, 0, 0, 0, 0, 0, 0, 0, 10, 10, 0, 0);
        Check.due("new: ledger(0, 0)", x.ledger(0, 0), ValveTwins.NONE);
        Check.due("new: clearCommands()", x.clearCommands(), 0);
        Check.due("NONE", ValveTwins.NONE, -1000000);
        Check.refused("new: undo()", x, Check.BAD_STATE, () -> x.undo());
        Check.due("new: digest()", x.digest(), Check.digestOf(x, 0, 0));
    }

    private static void promise2Answers() {
        ValveTwins x = new ValveTwins();
        Check.due("setRange(0, 999, 1000, true)", x.setRange(0, 999, 1000, true), 500);
        Check.due("setRange(0, 0, 1, false)", x.setRange(0, 0, 1, false), 9991000);
        Check.due("setRange(1, 10, 20, true)", x.setRange(1, 10, 20, true), 5001000);
        Check.due("setRange(1, 0, 1000, false)", x.setRange(1, 0, 1000, false), 100020);
        Check.due("a of the valve 0", x.valve(0, 5), 0);
        Check.due("b of the valve 0", x.valve(0, 6), 1);
        Check.due("falling of the valve 0", x.valve(0, 7), 0);
        Check.undoLeaves("setRange", x, 3);
        Check.due("a after undo", x.valve(1, 5), 10);
        Check.due("b after undo", x.valve(1, 6), 20);
        Check.due("falling after undo", x.valve(1, 7), 1);
        Check.due("the other's b after undo", x.valve(0, 6), 1);
    }

    private static void promise2Demands() {
        ValveTwins x = new ValveTwins();
        int[][] rising = {{0, 0}, {333, 0}, {334, 142}, {339, 857}, {340, 1000}, {341, 1000}, {1000, 1000}};
        x.setRange(0, 333, 340, false);
        for (int[] row : rising) {
            x.setSignal(row[0]);
            Check.due("rising demand at " + row[0], x.valve(0, 8), row[1]);
        }
        x.setRange(0, 333, 340, true);
        for (int[] row : rising) {
            x.setSignal(row[0]);
            Check.due("falling demand at " + row[0], x.valve(0, 8), 1000 - row[1]);
        }
    }

    private static void promise2Refusals() {
        ValveTwins x = new ValveTwins();
        x.setRange(0, 7, 8, true);
        for (int valve : WRONG_VALVES) {
            Check.refused("setRange(" + valve + ", 0, 1)", x, Check.NO_VALVE, () -> x.setRange(valve, 0, 1, false));
            Check.refused("setRange(" + valve + ", 9, 1)", x, Check.NO_VALVE, () -> x.setRange(valve, 9, 1, false));
        }
        int[][] wrong = {{-1, 5}, {5, 5}, {6, 5}, {0, 0}, {0, 1001}, {999, 1001}, {1000, 1000}, {1000, 1001},
            {Integer.MIN_VALUE, 5}, {0, Integer.MAX_VALUE}, {Integer.MAX_VALUE, Integer.MIN_VALUE}};
        for (int[] row : wrong) {
            String call = "setRange(1, " + row[0] + ", " + row[1] + ")";
            Check.refused(call, x, Check.BAD_VALUE, () -> x.setRange(1, row[0], row[1], true));
        }
        Check.undoLeaves("setRange refused", x, 0);
    }

    private static void promise3() {
        int[] atFirst = {1000, 10, 20, 100, 0};
        int[] least = {1, 0, 0, 0, 0};
        int[] most = {1000, 300, 300, 1000, 2};
        for (int valve = 0; valve <= 1; valve++) {
            for (int what = 0; what <= 4; what++) {
                ValveTwins x = new ValveTwins();
                String call = "setValve(" + valve + ", " + what + ", ..)";
                Check.due(call + " first", x.setValve(valve, what, least[what]), atFirst[what]);
                Check.due(call + " second", x.setValve(valve, what, most[what]), least[what]);
                Check.due(call + " third", x.setValve(valve, what, most[what]), most[what]);
                Check.due(call + " is seen", x.valve(valve, what), most[what]);
                Check.due(call + " leaves the other", x.valve(1 - valve, what), atFirst[what]);
                Check.undoLeaves(call, x, 2);
                Check.undoLeaves(call, x, 1);
                Check.due(call + " after undo", x.valve(valve, what), least[what]);
            }
        }
    }

    private static void promise3Refusals() {
        ValveTwins x = new ValveTwins();
        for (int valve : WRONG_VALVES) {
            Check.refused("setValve(" + valve + ", 0, 1)", x, Check.NO_VALVE, () -> x.setValve(valve, 0, 1));
            Check.refused("setValve(" + valve + ", 9, -9)", x, Check.NO_VALVE, () -> x.setValve(valve, 9, -9));
        }
        int[][] wrong = {{0, 0}, {0, 1001}, {1, -1}, {1, 301}, {2, -1}, {2, 301}, {3, -1}, {3, 1001}, {4, -1},
            {4, 3}, {-1, 1}, {5, 1}, {Integer.MAX_VALUE, 1}, {Integer.MIN_VALUE, 1}, {0, Integer.MIN_VALUE}};
        for (int[] row : wrong) {
            String call = "setValve(0, " + row[0] + ", " + row[1] + ")";
            Check.refused(call, x, Check.BAD_VALUE, () -> x.setValve(0, row[0], row[1]));
        }
    }

    private static void promise4() {
        ValveTwins x = new ValveTwins();
        Check.due("setSignal(1000)", x.setSignal(1000), 0);
        Check.due("setSignal(0)", x.setSignal(0), 1000);
        Check.due("setSignal(7)", x.setSignal(7), 0);
        Check.due("setSignal(7) again", x.setSignal(7), 7);
        for (int wrong : new int[] {-1, 1001, Integer.MIN_VALUE, Integer.MAX_VALUE}) {
            Check.refused("setSignal(" + wrong + ")", x, Check.BAD_VALUE, () -> x.setSignal(wrong));
        }
        Check.due("signal", x.pair(0), 7);
        Check.undoLeaves("setSignal", x, 3);
        Check.undoLeaves("setSignal", x, 2);
        Check.due("signal after undo", x.pair(0), 0);
        Check.due("time stays", x.pair(5), 0);
    }

    private static void promise5() {
        int[] atFirst = {0, 100, 0, 1000};
        int[] least = {0, -10000, 0, 1};
        int[] most = {1, 10000, 2000, 1000};
        for (int what = 0; what <= 3; what++) {
            ValveTwins x = new ValveTwins();
            int which = what;
            String call = "tune(" + what + ", ..)";
            Check.due(call + " first", x.tune(what, most[what]), atFirst[what]);
            Check.due(call + " second", x.tune(what, least[what]), most[what]);
            Check.due(call + " third", x.tune(what, most[what]), least[what]);
            Check.due(call + " is seen", x.pair(1 + what), most[what]);
            Check.refused(call + " too little", x, Check.BAD_VALUE, () -> x.tune(which, least[which] - 1));
            Check.refused(call + " too much", x, Check.BAD_VALUE, () -> x.tune(which, most[which] + 1));
            Check.undoLeaves(call, x, 2);
            Check.due(call + " after undo", x.pair(1 + what), least[what]);
        }
        ValveTwins x = new ValveTwins();
        for (int what : new int[] {-1, 4, Integer.MIN_VALUE, Integer.MAX_VALUE}) {
            Check.refused("tune(" + what + ", 1)", x, Check.BAD_VALUE, () -> x.tune(what, 1));
        }
    }

    private static void promise6() {
        ValveTwins x = new ValveTwins();
        x.setSignal(500);
        x.run(1);
        x.setSignal(100);
        x.run(1);
        // 1000 up and 800 down: 18 for the travel, 3 for the reversal.
        Check.due("service(0)", x.service(0), 21);
        Check.valveIs("serviced", x, 0, 1000, 10, 20, 100, 0, 0, 500, 0, 200, 200, -1, 1, 0, 0, 1800, 1, 0, 30, 0, 20, 1);
        Check.due("service(0) again", x.service(0), 0);
        Check.due("service(1)", x.service(1), 0);
        Check.due("services of the valve 0", x.valve(0, 20), 2);
        Check.due("services of the valve 1", x.valve(1, 20), 1);
        for (int valve : WRONG_VALVES) {
            Check.refused("service(" + valve + ")", x, Check.NO_VALVE, () -> x.service(valve));
        }
        Check.undoLeaves("service", x, 3);
        Check.undoLeaves("service", x, 2);
        Check.undoLeaves("service", x, 1);
        Check.due("wear after undo", x.valve(0, 16), 21);
        Check.due("services after undo", x.valve(0, 20), 0);
    }

    private static void promise7() {
        ValveTwins x = new ValveTwins();
        x.setSignal(100);
        x.run(1);
        Check.due("last way", x.valve(0, 10), 1);
        Check.due("running", x.valve(0, 11), 1);
        Check.due("putStem(0, 1000)", x.putStem(0, 1000), 200);
        Check.valveIs("put", x, 0, 1000, 10, 20, 100, 0, 0, 500, 0, 200, 1000, 0, 0, 200, 0, 200, 0, 2, 10, 10, 100, 0);
        Check.due("putStem(0, 0)", x.putStem(0, 0), 1000);
        Check.due("putStem(1, 30)", x.putStem(1, 30), 0);
        Check.due("the stem of the valve 0", x.valve(0, 9), 0);
        for (int valve : WRONG_VALVES) {
            Check.refused("putStem(" + valve + ", 0)", x, Check.NO_VALVE, () -> x.putStem(valve, 0));
            Check.refused("putStem(" + valve + ", -1)", x, Check.NO_VALVE, () -> x.putStem(valve, -1));
        }
        for (int place : new int[] {-1, 1001, Integer.MIN_VALUE, Integer.MAX_VALUE}) {
            Check.refused("putStem(1, " + place + ")", x, Check.BAD_VALUE, () -> x.putStem(1, place));
        }
        Check.undoLeaves("putStem", x, 3);
        Check.undoLeaves("putStem", x, 2);
        Check.undoLeaves("putStem", x, 1);
        Check.due("position after undo", x.valve(0, 9), 200);
        Check.due("last way after undo", x.valve(0, 10), 1);
        Check.due("running after undo", x.valve(0, 11), 1);
    }
}
