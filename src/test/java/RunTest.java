/** Promise 8: what happens in a tick, and how far the time may go. */
public final class RunTest {
    public static void main(String[] args) {
        sticking();
        turningBack();
        turningWhileRunning();
        speed();
        bothStems();
        wornSticking();
        wearByTravel();
        leaking();
        characteristics();
        controllerRaises();
        controllerFloors();
        controllerLimits();
        controllerSeesTheFlowBeforeTheMoves();
        volumes();
        ledgerDays();
        ledgerAmounts();
        ledgerFullAndBusy();
        refusals();
        lastTick();
        Check.finish();
    }

    private static void sticking() {
        ValveTwins x = new ValveTwins();
        x.setSignal(5);
        Check.due("10 is not more than the stick", x.run(1), 0);
        x.setSignal(6);
        Check.due("12 is more than the stick", x.run(1), 1);
        Check.due("position", x.valve(0, 9), 12);
        Check.due("threshold up while running", x.valve(0, 17), 0);
        Check.due("threshold down while running up", x.valve(0, 18), 30);
        x.setSignal(7);
        Check.due("a running stem goes on by 2", x.run(1), 1);
        Check.due("still at its demand", x.run(1), 0);
        Check.due("at rest", x.valve(0, 11), 0);
        Check.due("the last way stays", x.valve(0, 10), 1);
        Check.due("threshold up at rest", x.valve(0, 17), 10);
        x.setSignal(12);
        Check.due("at rest it sticks again", x.run(1), 0);
        x.setSignal(13);
        Check.due("12 more", x.run(3), 1);
        Check.due("position at last", x.valve(0, 9), 26);
        Check.due("travel", x.valve(0, 12), 26);
    }

    private static void turningBack() {
        ValveTwins x = new ValveTwins();
        x.setSignal(100);
        x.run(2);
        x.setSignal(85);
        Check.due("30 back is not more than 10 and 20", x.run(1), 0);
        x.setSignal(84);
        Check.due("32 back", x.run(1), 1);
        Check.valveIs("turned", x, 0, 1000, 10, 20, 100, 0, 0, 500, 0, 168, 168, -1, 1, 232, 1, 232, 1, 5, 30, 0, 16, 0);
        x.setSignal(83);
        Check.due("it runs on down", x.run(1), 1);
        Check.due("no second reversal", x.valve(0, 13), 1);
        x.run(1);
        x.setSignal(98);
        Check.due("30 up again is too little", x.run(1), 0);
        x.setSignal(99);
        Check.due("32 up again", x.run(1), 1);
        Check.due("the second reversal", x.valve(0, 13), 2);
        Check.due("reversals in all", x.valve(0, 15), 2);
    }

    private static void turningWhileRunning() {
        ValveTwins x = new ValveTwins();
        x.setSignal(100);
        x.run(1);
        x.setSignal(85);
        Check.due("running up helps nothing down", x.run(1), 0);
        Check.due("it is at rest then", x.valve(0, 11), 0);
        ValveTwins y = new ValveTwins();
        y.setValve(0, 2, 0);
        y.setSignal(100);
        y.run(1);
        y.setSignal(94);
        Check.due("without an extra stick", y.run(1), 1);
        Check.due("reversals", y.valve(0, 13), 1);
        y.putStem(0, 100);
        y.setSignal(90);
        y.run(1);
        Check.due("no reversal without a last way", y.valve(0, 13), 1);
    }

    private static void speed() {
        ValveTwins x = new ValveTwins();
        x.setValve(0, 0, 300);
        x.setSignal(500);
        Check.due("300, 300, 300, 100", x.run(10), 4);
        Check.due("position", x.valve(0, 9), 1000);
        Check.due("travel", x.valve(0, 12), 1000);
        x.setSignal(200);
        Check.due("down to 700", x.run(1), 1);
        Check.due("position", x.valve(0, 9), 700);
        Check.due("down to 400", x.run(1), 1);
        Check.due("position", x.valve(0, 9), 400);
        Check.due("time", x.pair(5), 12);
    }

    private static void bothStems() {
        ValveTwins x = new ValveTwins();
        x.setValve(1, 0, 250);
        x.setSignal(1000);
        Check.due("one of two is a tick with a move", x.run(6), 4);
        Check.due("valve 0", x.valve(0, 14), 1000);
        Check.due("valve 1", x.valve(1, 14), 1000);
        Check.undoLeaves("run", x, 2);
        Check.pairIs("undone", x, 1000, 0, 100, 0, 1000, 0, 0, 200, 0, 0, 0, 0);
        Check.due("travel after undo", x.valve(1, 14), 0);
    }

    /** Up and down by 1000, without a stick: 10 for the travel, and 3 for each reversal. */
    private static ValveTwins swung(int moves) {
        ValveTwins x = new ValveTwins();
        x.setValve(0, 1, 0);
        x.setValve(0, 2, 0);
        for (int move = 0; move < moves; move++) {
            x.setSignal(move % 2 == 0 ? 500 : 0);
            x.run(1);
        }
        x.setValve(0, 1, 10);
        x.setValve(0, 2, 20);
        return x;
    }

    private static void wornSticking() {
        ValveTwins four = swung(4);
        four.run(1);
        Check.due("wear after 4", four.valve(0, 16), 49);
        Check.due("49 adds nothing", four.valve(0, 18), 10);
        Check.due("threshold back after 4", four.valve(0, 17), 30);
        ValveTwins five = swung(5);
        five.run(1);
        Check.due("wear after 5", five.valve(0, 16), 62);
        Check.due("62 adds 1", five.valve(0, 17), 11);
        Check.due("threshold back after 5", five.valve(0, 18), 31);
        five.service(0);
        Check.due("serviced", five.valve(0, 18), 30);
    }

    /** Ways up alone, each from 0 again by hand: there is no reversal then. */
    private static void wearByTravel() {
        ValveTwins x = new ValveTwins();
        x.setSignal(500);
        x.setValve(0, 0, 99);
        x.run(1);
        Check.due("wear of 99", x.valve(0, 16), 0);
        x.setValve(0, 0, 1);
        x.run(1);
        Check.due("wear of 100", x.valve(0, 16), 1);
        x.setValve(0, 0, 1000);
        x.run(1);
        for (int way = 2; way <= 5; way++) {
            x.putStem(0, 0);
            Check.due("leak of " + (way - 1), x.valve(0, 19), (way - 1) / 2);
            Check.due("threshold of " + (way - 1), x.valve(0, 17), 10);
            x.run(1);
        }
        x.putStem(0, 0);
        Check.due("wear of 5000", x.valve(0, 16), 50);
        Check.due("threshold at the wear 50", x.valve(0, 18), 11);
        Check.due("leak at the wear 50", x.valve(0, 19), 2);
    }

    private static void leaking() {
        ValveTwins x = swung(4);
        Check.due("49 / 20", x.valve(0, 19), 2);
        Check.due("flow of the pair", x.pair(6), 2);
        Check.due("no ideal leak", x.pair(7), 0);
        int before = x.pair(10);
        x.run(3);
        Check.due("leaked", x.pair(10) - before, 6);
        x.run(2);
        Check.due("leaked more", x.pair(10) - before, 10);
        x.undo();
        Check.due("leaked after undo", x.pair(10) - before, 6);
        x.setValve(0, 3, 1);
        Check.due("no more than its size", x.valve(0, 19), 1);
        x.setValve(0, 3, 0);
        Check.due("nothing of the size 0", x.valve(0, 19), 0);
        x.setValve(0, 3, 100);
        x.putStem(0, 1);
        Check.due("no leak at 1", x.valve(0, 19), 0);
        before = x.pair(10);
        x.run(1);
        Check.due("nothing leaked at 1", x.pair(10) - before, 0);
        x.putStem(0, 0);
        x.service(0);
        Check.due("no leak after a service", x.valve(0, 19), 0);
    }

    private static void characteristics() {
        int[][] rows = {{0, 700, 7, 4}, {1, 700, 7, 3}, {2, 700, 7, 6}, {0, 999, 1000, 999}, {1, 999, 1000, 998},
            {2, 999, 1000, 1000}, {1, 1, 1000, 0}, {2, 1, 1000, 2}, {2, 1000, 1000, 1000}, {1, 1000, 1000, 1000},
            {1, 31, 1000, 0}, {1, 32, 1000, 1}, {0, 500, 1, 0}, {0, 1, 999, 0}};
        for (int[] row : rows) {
            ValveTwins x = new ValveTwins();
            x.setValve(1, 4, row[0]);
            x.putStem(1, row[1]);
            x.setValve(1, 3, row[2]);
            String where = "characteristic " + row[0] + " at " + row[1] + " of " + row[2];
            Check.due(where, x.valve(1, 19), row[3]);
            Check.due(where + " in the pair", x.pair(6), row[3]);
        }
    }

    private static void controllerRaises() {
        ValveTwins x = new ValveTwins();
        x.tune(1, 1000);
        x.tune(2, 50);
        x.run(1);
        Check.due("an idle controller", x.pair(0), 0);
        x.tune(0, 1);
        x.run(1);
        Check.due("50 more", x.pair(0), 50);
        Check.due("flow", x.pair(6), 10);
        x.run(1);
        Check.due("40 more", x.pair(0), 90);
        Check.due("flow", x.pair(6), 18);
        x.tune(0, 0);
        x.run(1);
        Check.due("off again", x.pair(0), 90);
        ValveTwins y = new ValveTwins();
        y.tune(1, 1000);
        y.tune(2, 999);
        y.tune(0, 1);
        y.run(1);
        Check.due("999 more", y.pair(0), 999);
    }

    private static void controllerFloors() {
        ValveTwins x = new ValveTwins();
        x.setSignal(50);
        x.run(1);
        x.tune(1, 1);
        x.tune(0, 1);
        x.run(1);
        Check.due("floor(1 * -10 / 1000) is -1", x.pair(0), 49);
        x.tune(1, -1);
        x.run(1);
        // The stem sticks on its way back: the flow is still 10.
        Check.due("floor(-1 * -10 / 1000) is 0", x.pair(0), 49);
        x.tune(1, -199);
        x.run(1);
        Check.due("floor(-199 * -10 / 1000) is 1", x.pair(0), 50);
    }

    private static void controllerLimits() {
        ValveTwins x = new ValveTwins();
        x.tune(1, 10000);
        x.tune(2, 2000);
        x.tune(3, 7);
        x.tune(0, 1);
        x.run(1);
        Check.due("by the rate up", x.pair(0), 7);
        x.tune(1, -10000);
        x.run(1);
        Check.due("by the rate down", x.pair(0), 0);
        x.run(1);
        Check.due("not below 0", x.pair(0), 0);
        x.tune(3, 1000);
        x.tune(1, 10000);
        x.setSignal(999);
        x.run(1);
        Check.due("not above 1000", x.pair(0), 1000);
    }

    private static void controllerSeesTheFlowBeforeTheMoves() {
        ValveTwins x = new ValveTwins();
        x.tune(1, 1000);
        x.tune(2, 20);
        x.tune(0, 1);
        x.setSignal(500);
        // The flow is 0 when the controller looks, and 100 behind the moves.
        x.run(1);
        Check.due("signal", x.pair(0), 520);
        Check.due("moves by the new signal", x.valve(1, 9), 40);
        Check.due("missed by the new signal", x.pair(9), 0);
    }

    private static void volumes() {
        ValveTwins x = new ValveTwins();
        x.setSignal(5);
        x.run(4);
        Check.pairIs("stuck below", x, 5, 0, 100, 0, 1000, 4, 0, 1, 0, 4, 0, 2);
        x.putStem(0, 500);
        x.setSignal(245);
        x.run(3);
        Check.pairIs("stuck above", x, 245, 0, 100, 0, 1000, 7, 50, 49, 150, 7, 0, 2);
    }

    private static void ledgerDays() {
        ValveTwins x = new ValveTwins();
        x.run(99);
        Check.due("99 ticks", x.pair(11), 2);
        x.run(1);
        Check.due("100 ticks", x.pair(11), 2);
        x.run(1);
        Check.due("101 ticks", x.pair(11), 4);
        Check.entryIs("second day", x, 2, 0, 1, 0, 0, 0);
        Check.entryIs("second day", x, 3, 1, 1, 0, 0, 0);
        x.run(499);
        Check.due("600 ticks", x.pair(11), 12);
        Check.entryIs("600 ticks", x, 0, 0, 0, 0, 0, 0);
        x.run(1);
        Check.due("601 ticks", x.pair(11), 12);
        for (int entry = 0; entry < 12; entry++) {
            Check.entryIs("601 ticks", x, entry, entry % 2, 1 + entry / 2, 0, 0, 0);
        }
        Check.undoLeaves("601 ticks", x, 3);
        Check.entryIs("undone", x, 0, 0, 0, 0, 0, 0);
        Check.entryIs("undone", x, 11, 1, 5, 0, 0, 0);
    }

    private static void ledgerAmounts() {
        ValveTwins x = swung(4);
        x.run(96);
        // The fourth move ends at 0 with the wear 49, and so do the 96 ticks behind it: 97 leaks of 2.
        // The second move ends at 0 with the wear 23: a leak of 1.
        Check.entryIs("day 0", x, 0, 0, 0, 4000, 3, 195);
        Check.entryIs("day 0", x, 1, 1, 0, 0, 0, 0);
        x.setSignal(1000);
        x.run(1);
        Check.entryIs("day 1", x, 2, 0, 1, 1000, 1, 0);
        Check.entryIs("day 1", x, 3, 1, 1, 1000, 0, 0);
        Check.due("leaked in all", x.pair(10), 195);
    }

    private static void ledgerFullAndBusy() {
        ValveTwins x = swung(4);
        x.setRange(1, 0, 600, false);
        x.run(500);
        x.run(94);
        x.setSignal(600);
        x.run(1);
        x.setSignal(0);
        x.run(1);
        // The wear of the valve 0 is 49 in the 98 ticks before, and 75 in the last one: leaks of 2 and of 3.
        Check.entryIs("day 5", x, 10, 0, 5, 2000, 2, 2 * 98 + 3);
        Check.entryIs("day 5", x, 11, 1, 5, 2000, 1, 1);
        x.run(1);
        Check.entryIs("day 5 moves on", x, 8, 0, 5, 2000, 2, 2 * 98 + 3);
        Check.entryIs("day 5 moves on", x, 9, 1, 5, 2000, 1, 1);
        Check.entryIs("day 6", x, 10, 0, 6, 0, 0, 3);
        Check.entryIs("day 6", x, 11, 1, 6, 0, 0, 1);
    }

    private static void refusals() {
        ValveTwins x = new ValveTwins();
        for (int ticks : new int[] {0, -1, 501, Integer.MIN_VALUE, Integer.MAX_VALUE}) {
            Check.refused("run(" + ticks + ")", x, Check.BAD_VALUE, () -> x.run(ticks));
        }
        Check.due("run(500)", x.run(500), 0);
        Check.due("run(1)", x.run(1), 0);
        Check.due("time", x.pair(5), 501);
    }

    private static void lastTick() {
        ValveTwins x = new ValveTwins();
        for (int i = 0; i < 399; i++) {
            x.run(500);
        }
        x.run(499);
        Check.refused("run(2) at 199999", x, Check.BAD_STATE, () -> x.run(2));
        Check.refused("run(501) at 199999", x, Check.BAD_VALUE, () -> x.run(501));
        Check.due("run 2; at 199999", Check.runText(x, "free;run 2;free;"), 1);
        Check.due("run(1) at 199999", x.run(1), 0);
        Check.due("time", x.pair(5), 200000);
        Check.refused("run(1) at 200000", x, Check.BAD_STATE, () -> x.run(1));
        Check.refused("run(0) at 200000", x, Check.BAD_VALUE, () -> x.run(0));
        Check.due("run 1; at 200000", Check.runText(x, "run 1;"), 0);
        x.setSignal(500);
        x.setValve(0, 0, 100);
        Check.due("restAfter(500) beyond", x.restAfter(500), 11);
        Check.due("wornAfter(0, 3, 500) beyond", x.wornAfter(0, 3, 500), 3);
        Check.due("missedWithin(3) beyond", x.missedWithin(3), 240);
        Check.due("time stays", x.pair(5), 200000);
    }
}
