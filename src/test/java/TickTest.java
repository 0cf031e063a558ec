/** Terms: a tick, the controller, the volumes, the ledger and the time. In plain() the valve 0 follows the signal. */
public final class TickTest {
    public static void main(String[] args) {
        controllerOff();
        controllerSettings();
        controllerChange();
        controllerRate();
        controllerSignalRange();
        controllerGreatestNumbers();
        controllerBeforeTheMoves();
        controllerSeesLeaks();
        stemsBySignal();
        volumeAdds();
        missedAdds();
        missedByTheNewSignal();
        leakedAdds();
        leakedOfBoth();
        leakedBehindTheMove();
        ledgerDay();
        ledgerAmounts();
        ledgerMade();
        ledgerMadeWithZeros();
        ledgerFull();
        ledgerFullAmounts();
        ledgerBehindUndo();
        timeIncreases();
        Check.finish();
    }

    // ---- (1) the controller

    private static void controllerOff() {
        Check.sentence("Terms", "If the controller is on, the signal changes by "
            + "floor(gain * (wanted flow - flow of the pair) / 1000)");
        ValveTwins x = new ValveTwins();
        x.tune(1, 1000);
        x.tune(2, 50);
        x.run(5);
        Check.due("it is off at first", x.pair(0), 0);
        x.tune(0, 1);
        x.run(1);
        Check.due("on: 50 more", x.pair(0), 50);
        x.tune(0, 0);
        x.run(5);
        Check.due("off again", x.pair(0), 50);
    }

    private static void controllerSettings() {
        Check.sentence("Terms", "(The gain is from -10000 to 10000, 100 at first; the wanted flow from 0 to 2000, 0 at "
            + "first; the rate from 1 to 1000, 1000 at first.)");
        ValveTwins x = new ValveTwins();
        Check.pairIs("at first", x, 0, 0, 100, 0, 1000);
        x.setSignal(700);
        x.putStem(0, 1000);
        x.tune(0, 1);
        x.run(1);
        Check.due("floor(100 * (0 - 100) / 1000)", x.pair(0), 690);
        int[][] ends = {{1, -10000, 10000}, {2, 0, 2000}, {3, 1, 1000}};
        for (int[] row : ends) {
            int what = row[0];
            for (int end = 1; end <= 2; end++) {
                x.tune(what, row[end]);
                Check.due("tune(" + what + ", ..)", x.pair(1 + what), row[end]);
            }
            Check.refused("too little of " + what, Check.BAD_VALUE, States::busy, y -> y.tune(what, row[1] - 1));
            Check.refused("too much of " + what, Check.BAD_VALUE, States::busy, y -> y.tune(what, row[2] + 1));
        }
    }

    private static ValveTwins controlled(int signal, int gain, int wanted, int rate) {
        ValveTwins x = States.plain();
        x.setSignal(signal);
        x.tune(1, gain);
        x.tune(2, wanted);
        x.tune(3, rate);
        x.tune(0, 1);
        return x;
    }

    private static int signalAfter(int signal, int gain, int wanted, int rate) {
        ValveTwins x = controlled(signal, gain, wanted, rate);
        x.run(1);
        return x.pair(0);
    }

    private static void controllerChange() {
        Check.sentence("Terms", "the signal changes by floor(gain * (wanted flow - flow of the pair) / 1000)");
        ValveTwins x = controlled(0, 1000, 50, 1000);
        int[][] rows = {{50, 5}, {95, 9}, {136, 13}, {173, 17}};
        for (int[] row : rows) {
            x.run(1);
            Check.due("signal", x.pair(0), row[0]);
            Check.due("flow", x.pair(6), row[1]);
        }
        x.tune(1, -1000);
        x.run(1);
        Check.due("the other way by 33", x.pair(0), 140);
        x.tune(1, 0);
        x.run(1);
        Check.due("no gain", x.pair(0), 140);
    }

    private static void controllerRate() {
        Check.sentence("Terms", "brought into the range from -rate to rate");
        // The flow is 0: the change is the wanted flow before the rate limits it.
        int[][] rows = {{49, 549}, {50, 550}, {51, 550}, {1000, 550}, {0, 500}};
        for (int[] row : rows) {
            Check.due("up by " + row[0] + " at the rate 50", signalAfter(500, 1000, row[0], 50), row[1]);
            Check.due("down by " + row[0] + " at the rate 50", signalAfter(500, -1000, row[0], 50), 1000 - row[1]);
        }
        Check.due("up by the least rate", signalAfter(500, 10000, 2000, 1), 501);
        Check.due("down by the least rate", signalAfter(500, -10000, 2000, 1), 499);
        Check.due("up by the greatest rate", signalAfter(0, 1000, 999, 1000), 999);
        Check.due("down by the greatest rate", signalAfter(1000, -1000, 999, 1000), 1);
        Check.due("all the way up", signalAfter(0, 10000, 2000, 1000), 1000);
        Check.due("all the way down", signalAfter(1000, -10000, 2000, 1000), 0);
        Check.due("the rate 999 up", signalAfter(0, 10000, 2000, 999), 999);
        Check.due("the rate 999 down", signalAfter(1000, -10000, 2000, 999), 1);
    }

    private static void controllerSignalRange() {
        Check.sentence("Terms", "and is brought into the range 0 to 1000.");
        Check.due("to 1000", signalAfter(990, 1000, 10, 1000), 1000);
        Check.due("not to 1001", signalAfter(990, 1000, 11, 1000), 1000);
        Check.due("not above 1000", signalAfter(1000, 1000, 1, 1000), 1000);
        Check.due("to 0", signalAfter(10, -1000, 10, 1000), 0);
        Check.due("not to -1", signalAfter(10, -1000, 11, 1000), 0);
        Check.due("not below 0", signalAfter(0, -1000, 1, 1000), 0);
    }

    private static void controllerGreatestNumbers() {
        Check.sentence("Terms", "floor(gain * (wanted flow - flow of the pair) / 1000)");
        ValveTwins x = new ValveTwins();
        for (int valve = 0; valve <= 1; valve++) {
            x.setValve(valve, 3, 1000);
            x.putStem(valve, 1000);
        }
        x.setSignal(1000);
        x.tune(1, 10000);
        x.tune(0, 1);
        Check.due("the greatest flow", x.pair(6), 2000);
        x.run(1);
        Check.due("10000 * -2000", x.pair(0), 0);
        x.undo();
        x.tune(1, -10000);
        x.setSignal(0);
        x.run(1);
        Check.due("-10000 * -2000", x.pair(0), 1000);
    }

    private static void controllerBeforeTheMoves() {
        Check.sentence("Terms", "(2) The stems move, first that of the valve 0, then that of the valve 1.");
        ValveTwins x = new ValveTwins();
        x.tune(1, 1000);
        x.tune(2, 20);
        x.tune(0, 1);
        x.setSignal(500);
        // The flow is 0 when the controller looks, and 104 behind the moves.
        x.run(1);
        Check.due("signal", x.pair(0), 520);
        Check.due("the valve 0 by the new signal", x.valve(0, 9), 1000);
        Check.due("the valve 1 by the new signal", x.valve(1, 9), 40);
    }

    private static void controllerSeesLeaks() {
        Check.sentence("Terms", "wanted flow - flow of the pair");
        ValveTwins x = leaky();
        x.setSignal(100);
        x.setValve(0, 1, 300);
        x.tune(1, 10000);
        x.tune(2, 3);
        x.tune(0, 1);
        Check.due("it leaks 3", x.pair(6), 3);
        x.run(1);
        Check.due("as much as is wanted", x.pair(0), 100);
        x.tune(2, 4);
        x.run(1);
        Check.due("1 is missing", x.pair(0), 110);
    }

    private static void stemsBySignal() {
        Check.sentence("Terms", "(2) The stems move");
        ValveTwins x = new ValveTwins();
        x.setSignal(750);
        Check.due("one tick for both", x.run(1), 1);
        Check.due("the valve 0", x.valve(0, 9), 1000);
        Check.due("the valve 1", x.valve(1, 9), 500);
    }

    // ---- (3) the volumes

    private static void volumeAdds() {
        Check.sentence("Terms", "(3) The flow of the pair is added to the volume");
        ValveTwins x = States.plain();
        x.setValve(0, 0, 200);
        x.setSignal(500);
        int[] volumes = {20, 60, 110, 160};
        for (int volume : volumes) {
            x.run(1);
            Check.due("volume", x.pair(8), volume);
        }
        x.putStem(1, 1000);
        x.run(1);
        Check.due("only the flow behind the moves", x.pair(8), 210);
    }

    private static void missedAdds() {
        Check.sentence("Terms", "the difference between it and the ideal flow for the signal, as it is then, "
            + "(not negative) to the missed volume");
        ValveTwins x = States.plain();
        x.setSignal(10);
        x.run(4);
        Check.pairIs("stuck below", x, 10, 0, 100, 0, 1000, 4, 0, 1, 0, 4, 0, 2);
        x.putStem(0, 500);
        x.setSignal(490);
        x.run(3);
        Check.pairIs("stuck above", x, 490, 0, 100, 0, 1000, 7, 50, 49, 150, 7, 0, 2);
        x.setSignal(500);
        x.run(9);
        Check.pairIs("nothing missed", x, 500, 0, 100, 0, 1000, 16, 50, 50, 600, 7, 0, 2);
    }

    private static void missedByTheNewSignal() {
        Check.sentence("Terms", "the ideal flow for the signal, as it is then");
        ValveTwins x = controlled(0, 1000, 300, 1000);
        x.setValve(0, 0, 100);
        x.run(1);
        Check.pairIs("300 in one step, 100 moved", x, 300, 1, 1000, 300, 1000, 1, 10, 30, 10, 20, 0, 2);
    }

    /** A stem at 0 with the wear 60, from moves up alone: a leak of 3. The signal is 0, the time 61. */
    private static ValveTwins leaky() {
        ValveTwins x = States.plain();
        x.setSignal(500);
        x.setValve(0, 0, 100);
        for (int move = 0; move < 12; move++) {
            x.putStem(0, 0);
            x.run(5);
        }
        x.putStem(0, 0);
        x.setSignal(0);
        x.setValve(0, 0, 1000);
        x.run(1);
        return x;
    }

    private static void leakedAdds() {
        Check.sentence("Terms", "and the flow of each valve whose stem is at 0 to the leaked volume.");
        ValveTwins x = leaky();
        Check.due("leaked", x.pair(10), 3);
        int volume = x.pair(8);
        int missed = x.pair(9);
        x.run(4);
        Check.due("leaked", x.pair(10), 15);
        Check.due("volume", x.pair(8) - volume, 12);
        Check.due("missed", x.pair(9) - missed, 12);
        x.putStem(0, 1);
        x.setValve(0, 3, 1000);
        x.run(1);
        Check.due("nothing at 1", x.pair(10), 15);
        Check.due("but a volume", x.pair(8) - volume, 13);
    }

    private static void leakedOfBoth() {
        Check.sentence("Terms", "the flow of each valve whose stem is at 0");
        ValveTwins x = new ValveTwins();
        for (int valve = 0; valve <= 1; valve++) {
            x.setRange(valve, 0, 1000, false);
            x.setValve(valve, 1, 0);
            x.setValve(valve, 2, 0);
        }
        x.setRange(1, 0, 500, false);
        for (int swing = 0; swing < 3; swing++) {
            x.setSignal(500);
            x.run(1);
            x.setSignal(0);
            x.run(1);
        }
        // Of 3000 and 6000, each with 5 reversals: the wear 45 and 75. At 0 before: 13 and 23, 29 and 49.
        Check.due("wear of the valve 0", x.valve(0, 16), 45);
        Check.due("wear of the valve 1", x.valve(1, 16), 75);
        Check.due("leaked", x.pair(10), 0 + 1 + 1 + 2 + 2 + 3);
        Check.due("of the valve 0", x.ledgerSum(0, 4), 3);
        Check.due("of the valve 1", x.ledgerSum(1, 4), 6);
        x.run(10);
        Check.due("leaked", x.pair(10), 9 + 50);
    }

    private static void leakedBehindTheMove() {
        Check.sentence("Terms", "whose stem is at 0 to the leaked volume");
        ValveTwins x = leaky();
        x.setSignal(500);
        x.run(1);
        Check.due("it left 0 in this tick", x.pair(10), 3);
        x.setSignal(0);
        x.run(1);
        // The travel is 7000 now, with one reversal: the wear 73.
        Check.due("it came to 0 in this tick", x.pair(10), 6);
    }

    // ---- (4) the ledger

    private static void ledgerDay() {
        Check.sentence("Terms", "are added to the entry of the ledger for this valve and the day floor(time / 100)");
        ValveTwins x = States.plain();
        x.run(99);
        x.setSignal(500);
        x.run(1);
        Check.due("entries at 100", x.pair(11), 2);
        Check.entryIs("the tick at 99", x, 0, 0, 0, 500, 0, 0);
        x.setSignal(400);
        x.run(1);
        Check.due("entries at 101", x.pair(11), 4);
        Check.entryIs("the tick at 99", x, 0, 0, 0, 500, 0, 0);
        Check.entryIs("the tick at 100", x, 2, 0, 1, 100, 1, 0);
        x.run(98);
        x.setSignal(450);
        x.run(1);
        Check.entryIs("the tick at 199", x, 2, 0, 1, 150, 2, 0);
        x.setSignal(451);
        x.run(1);
        Check.entryIs("the tick at 200", x, 4, 0, 2, 1, 0, 0);
    }

    private static void ledgerAmounts() {
        Check.sentence("Terms", "(4) For each valve, its travel, its reversals and its leaked flow of this tick are added");
        ValveTwins x = leaky();
        Check.entryIs("the valve 0", x, 0, 0, 0, 6000, 0, 3);
        Check.entryIs("the valve 1", x, 1, 1, 0, 0, 0, 0);
        x.setValve(1, 0, 700);
        x.setSignal(1000);
        x.run(1);
        x.setSignal(200);
        x.run(2);
        Check.entryIs("the valve 0", x, 0, 0, 0, 7800, 1, 3);
        Check.entryIs("the valve 1", x, 1, 1, 0, 1400, 1, 0);
        x.service(0);
        x.service(1);
        Check.entryIs("behind a service", x, 0, 0, 0, 7800, 1, 3);
        x.setSignal(0);
        x.run(1);
        Check.entryIs("no leak behind a service", x, 0, 0, 0, 8000, 1, 3);
    }

    private static void ledgerMade() {
        Check.sentence("Terms", "if there is no such entry, it is made, first with 0, behind the others.");
        ValveTwins x = new ValveTwins();
        Check.due("no entry before a tick", x.pair(11), 0);
        Check.entryIs("none", x, 0, ValveTwins.NONE, ValveTwins.NONE, ValveTwins.NONE, ValveTwins.NONE, ValveTwins.NONE);
        x.setSignal(300);
        Check.due("no entry of a call alone", x.pair(11), 0);
        x.setSignal(0);
        x.run(1);
        Check.due("entries of a tick without a move", x.pair(11), 2);
        Check.entryIs("the first", x, 0, 0, 0, 0, 0, 0);
        Check.entryIs("the second", x, 1, 1, 0, 0, 0, 0);
        x.run(100);
        Check.due("entries of two days", x.pair(11), 4);
        Check.entryIs("the third", x, 2, 0, 1, 0, 0, 0);
        Check.entryIs("the fourth", x, 3, 1, 1, 0, 0, 0);
    }

    /** The entries that are made in the full ledger, behind entries with travel, reversals and leaks. */
    private static void ledgerMadeWithZeros() {
        Check.sentence("Terms", "it is made, first with 0, behind the others.");
        for (int busy = 0; busy <= 1; busy++) {
            ValveTwins x = new ValveTwins();
            x.setRange(busy, 0, 500, false);
            x.setRange(1 - busy, 999, 1000, false);
            x.run(500);
            x.run(95);
            for (int swing = 0; swing < 4; swing++) {
                x.setSignal(swing % 2 == 0 ? 500 : 0);
                x.run(1);
            }
            x.run(1);
            // The wear is 23 behind the second move (a leak of 1), 49 behind the fourth (2), and so it stays.
            Check.entryIs("the sixth day", x, 10 + busy, busy, 5, 4000, 3, 1 + 2 + 2);
            Check.entryIs("the sixth day", x, 11 - busy, 1 - busy, 5, 0, 0, 0);
            x.service(busy);
            x.run(1);
            Check.entryIs("behind the sixth day", x, 8 + busy, busy, 5, 4000, 3, 5);
            Check.entryIs("the seventh day", x, 10, 0, 6, 0, 0, 0);
            Check.entryIs("the seventh day", x, 11, 1, 6, 0, 0, 0);
            x.undo();
            x.undo();
            x.run(1);
            Check.entryIs("the seventh day, without the service", x, 10 + busy, busy, 6, 0, 0, 2);
            Check.entryIs("the seventh day, of the other", x, 11 - busy, 1 - busy, 6, 0, 0, 0);
        }
    }

    private static void ledgerFull() {
        Check.sentence("Terms", "The ledger keeps the 12 entries that were made last.");
        ValveTwins x = new ValveTwins();
        x.run(500);
        Check.due("entries of 5 days", x.pair(11), 10);
        x.run(1);
        Check.due("entries of 6 days", x.pair(11), 12);
        Check.entryIs("6 days", x, 0, 0, 0);
        x.run(99);
        Check.due("6 days to the end", x.pair(11), 12);
        Check.entryIs("6 days to the end", x, 0, 0, 0);
        for (int day = 6; day <= 9; day++) {
            x.run(1);
            Check.due("the day " + day, x.pair(11), 12);
            for (int entry = 0; entry < 12; entry++) {
                Check.entryIs("the day " + day, x, entry, entry % 2, day - 5 + entry / 2, 0, 0, 0);
            }
            Check.due("no entry 12", x.ledger(12, 0), ValveTwins.NONE);
            x.run(99);
        }
    }

    /** In each day the valve 0 moves by another number; the first day's numbers go with the first day's entries. */
    private static void ledgerFullAmounts() {
        Check.sentence("Terms", "The ledger keeps the 12 entries that were made last.");
        ValveTwins x = States.plain();
        int[] travels = {100, 120, 140, 160, 180, 200, 19, 21};
        int signal = 0;
        for (int day = 0; day < 8; day++) {
            signal += travels[day];
            x.setSignal(signal);
            x.run(100);
            int days = Math.min(day + 1, 6);
            int sum = 0;
            for (int kept = 0; kept < days; kept++) {
                int made = day + 1 - days + kept;
                Check.entryIs("behind the day " + day, x, 2 * kept, 0, made, travels[made], 0, 0);
                Check.entryIs("behind the day " + day, x, 2 * kept + 1, 1, made, 0, 0, 0);
                sum += travels[made];
            }
            Check.due("ledgerSum(0, 2) behind the day " + day, x.ledgerSum(0, 2), sum);
        }
        Check.due("travel in all", x.valve(0, 14), 940);
    }

    private static void ledgerBehindUndo() {
        Check.sentence("Terms", "The ledger keeps the 12 entries that were made last.");
        ValveTwins x = States.plain();
        x.setSignal(500);
        x.run(500);
        x.run(100);
        x.setSignal(700);
        x.run(1);
        Check.entryIs("the first day has gone", x, 0, 0, 1, 0, 0, 0);
        Check.entryIs("a seventh day", x, 10, 0, 6, 200, 0, 0);
        Check.undoLeaves("the seventh day", x, 3);
        Check.due("12 entries again", x.pair(11), 12);
        Check.entryIs("the first day is back", x, 0, 0, 0, 500, 0, 0);
        Check.entryIs("the sixth is the last", x, 11, 1, 5, 0, 0, 0);
        x.setSignal(900);
        x.run(1);
        Check.entryIs("another seventh day", x, 10, 0, 6, 400, 0, 0);
        Check.entryIs("the first day has gone again", x, 0, 0, 1, 0, 0, 0);
    }

    // ---- (5) the time

    private static void timeIncreases() {
        Check.sentence("Terms", "(5) The time increases by 1. (What-if questions may look beyond the time 200000.)");
        ValveTwins x = new ValveTwins();
        x.run(1);
        Check.due("time", x.pair(5), 1);
        x.run(1);
        Check.due("time", x.pair(5), 2);
        ValveTwins last = States.atLast();
        last.setSignal(500);
        last.setValve(0, 0, 100);
        Check.due("restAfter(500) beyond", last.restAfter(500), 11);
        Check.due("restAfter(1) beyond", last.restAfter(1), ValveTwins.NONE);
        Check.due("wornAfter(0, 3, 500) beyond", last.wornAfter(0, 3, 500), 3);
        Check.due("wornAfter(0, 11, 500) beyond", last.wornAfter(0, 11, 500), ValveTwins.NONE);
        Check.due("missedWithin(3) beyond", last.missedWithin(3), 240);
        Check.due("missedWithin(500) beyond", last.missedWithin(500), 450);
        Check.due("moveFor(0, 500) beyond", last.moveFor(0, 500), 100);
        Check.due("the time stays", last.pair(5), 200000);
        Check.entryIs("the last day", last, 10, 0, 1999, 0, 0, 0);
    }
}
