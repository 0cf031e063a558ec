/** Terms: stems, their wear, their thresholds and their moves. In plain() the demand of the valve 0 is the signal. */
public final class StemTest {
    public static void main(String[] args) {
        atFirst();
        settingsEnds();
        lastWay();
        running();
        wearByTravel();
        wearByReversals();
        wearSinceService();
        thresholdOfTheStick();
        thresholdWhileRunning();
        thresholdOfWear();
        thresholdBack();
        greatestThresholds();
        leastThresholds();
        noMoveAtTheDemand();
        moveAboveTheThreshold();
        speed();
        travelAndReversals();
        slowReversal();
        restEndsTheRunning();
        bothValves();
        Check.finish();
    }

    private static ValveTwins at(int signal) {
        ValveTwins x = States.plain();
        x.setSignal(signal);
        x.run(1);
        return x;
    }

    /** Moves the valve 0 for a tick towards the signal; answers by how much it moved. */
    private static int go(ValveTwins x, int signal) {
        int before = x.valve(0, 9);
        x.setSignal(signal);
        x.run(1);
        return x.valve(0, 9) - before;
    }

    private static void atFirst() {
        Check.sentence("Terms", "A valve has a stem with a position s (0 to 1000, 0 at first), a speed (1 to 1000, "
            + "1000 at first), a stick (0 to 300, 10 at first) and an extra stick for turning back (0 to 300, "
            + "20 at first).");
        for (int valve = 0; valve <= 1; valve++) {
            ValveTwins x = new ValveTwins();
            Check.due("position", x.valve(valve, 9), 0);
            Check.due("speed", x.valve(valve, 0), 1000);
            Check.due("stick", x.valve(valve, 1), 10);
            Check.due("extra stick", x.valve(valve, 2), 20);
            x.setSignal(valve == 0 ? 500 : 1000);
            x.run(1);
            Check.due("all of 1000 in a tick", x.valve(valve, 9), 1000);
        }
    }

    private static void settingsEnds() {
        Check.sentence("Terms", "a speed (1 to 1000, 1000 at first), a stick (0 to 300, 10 at first) and an extra stick "
            + "for turning back (0 to 300, 20 at first)");
        ValveTwins x = at(500);
        x.setValve(0, 0, 1);
        Check.due("the least speed", go(x, 600), 1);
        x.setValve(0, 0, 1000);
        Check.due("the greatest speed", go(x, 1000), 499);
        x.putStem(0, 0);
        x.setValve(0, 1, 300);
        Check.due("the greatest stick", go(x, 300), 0);
        Check.due("and 1 more", go(x, 301), 301);
        x.setValve(0, 2, 300);
        Check.due("the greatest extra stick", x.valve(0, 18), 600);
        x.setValve(0, 1, 0);
        x.setValve(0, 2, 0);
        Check.due("the least sticks", x.valve(0, 18), 0);
        Check.due("and 1 back", go(x, 300), -1);
    }

    private static void lastWay() {
        Check.sentence("Terms", "It has a way in which its stem moved last (0 if it never moved, 1 up, -1 down; "
            + "0 at first), and it is running or at rest (at rest at first).");
        ValveTwins x = States.plain();
        Check.due("at first", x.valve(0, 10), 0);
        go(x, 10);
        Check.due("it has not moved", x.valve(0, 10), 0);
        go(x, 500);
        Check.due("up", x.valve(0, 10), 1);
        go(x, 500);
        Check.due("up, and at rest", x.valve(0, 10), 1);
        go(x, 400);
        Check.due("down", x.valve(0, 10), -1);
        go(x, 420);
        Check.due("down still", x.valve(0, 10), -1);
        go(x, 900);
        Check.due("up again", x.valve(0, 10), 1);
    }

    private static void running() {
        Check.sentence("Terms", "it is running or at rest (at rest at first)");
        ValveTwins x = States.plain();
        Check.due("at first", x.valve(0, 11), 0);
        go(x, 10);
        Check.due("stuck", x.valve(0, 11), 0);
        go(x, 11);
        Check.due("moved", x.valve(0, 11), 1);
        go(x, 11);
        Check.due("at its demand", x.valve(0, 11), 0);
    }

    /** Ways up alone, each from 0 again by hand: there is travel then, but no reversal. */
    private static ValveTwins travelled(int travel) {
        ValveTwins x = States.plain();
        x.setSignal(999);
        x.setValve(0, 0, 999);
        for (int left = travel; left > 0; left -= 999) {
            x.putStem(0, 0);
            x.setValve(0, 0, Math.min(left, 999));
            x.run(1);
        }
        x.putStem(0, 0);
        x.setValve(0, 0, 1000);
        Check.due("travel", x.valve(0, 12), travel);
        return x;
    }

    private static void wearByTravel() {
        Check.sentence("Terms", "The wear of a valve is floor(travel / 100) + 3 * reversals, with the travel and the "
            + "reversals since its latest service.");
        int[][] rows = {{0, 0}, {1, 0}, {99, 0}, {100, 1}, {101, 1}, {199, 1}, {200, 2}, {999, 9}, {1000, 10},
            {4999, 49}, {5000, 50}};
        for (int[] row : rows) {
            Check.due("wear of the travel " + row[0], travelled(row[0]).valve(0, 16), row[1]);
        }
    }

    private static void wearByReversals() {
        Check.sentence("Terms", "floor(travel / 100) + 3 * reversals");
        ValveTwins x = at(500);
        Check.due("no reversal", x.valve(0, 16), 5);
        go(x, 450);
        Check.due("travel 550, one", x.valve(0, 16), 8);
        go(x, 499);
        Check.due("travel 599, two", x.valve(0, 16), 11);
        go(x, 500);
        Check.due("travel 600, two", x.valve(0, 16), 12);
    }

    private static void wearSinceService() {
        Check.sentence("Terms", "with the travel and the reversals since its latest service");
        ValveTwins x = at(500);
        go(x, 450);
        x.service(0);
        Check.due("serviced", x.valve(0, 16), 0);
        go(x, 499);
        Check.due("travel 49, one", x.valve(0, 16), 3);
        Check.valveIs("since and in all", x, 0, 1000, 10, 20, 100, 0, 0, 1000, 0, 499, 499, 1, 1, 49, 1, 599, 2, 3);
        go(x, 448);
        Check.due("travel 100, two", x.valve(0, 16), 7);
    }

    private static void thresholdOfTheStick() {
        Check.sentence("Terms", "otherwise the stick plus floor(wear / 50)");
        ValveTwins x = States.plain();
        x.setValve(0, 1, 37);
        Check.due("up", x.valve(0, 17), 37);
        Check.due("down", x.valve(0, 18), 37);
        x.setSignal(500);
        x.run(2);
        Check.due("at rest, its last way", x.valve(0, 17), 37);
    }

    private static void thresholdWhileRunning() {
        Check.sentence("Terms", "The threshold for a way is 0 if the stem is running and this is its last way");
        ValveTwins x = at(500);
        Check.due("running up, up", x.valve(0, 17), 0);
        Check.due("running up, down", x.valve(0, 18), 30);
        Check.due("1 more", go(x, 501), 1);
        go(x, 400);
        Check.due("running down, up", x.valve(0, 17), 30);
        Check.due("running down, down", x.valve(0, 18), 0);
        Check.due("1 less", go(x, 399), -1);
        go(x, 399);
        Check.due("at rest, up", x.valve(0, 17), 30);
        Check.due("at rest, down", x.valve(0, 18), 10);
        Check.due("10 less at rest", go(x, 389), 0);
        Check.due("11 less at rest", go(x, 388), -11);
    }

    private static void thresholdOfWear() {
        Check.sentence("Terms", "the stick plus floor(wear / 50)");
        int[][] rows = {{0, 10}, {4900, 10}, {4999, 10}, {5000, 11}, {5100, 11}, {9999, 11}, {10000, 12}};
        for (int[] row : rows) {
            ValveTwins x = travelled(row[0]);
            Check.due("threshold up for the travel " + row[0], x.valve(0, 17), row[1]);
            Check.due("threshold down for the travel " + row[0], x.valve(0, 18), row[1]);
            Check.due("not more than this", go(x, row[1]), 0);
            Check.due("more than this", go(x, row[1] + 1), row[1] + 1);
        }
        ValveTwins x = travelled(5000);
        x.setSignal(800);
        x.run(1);
        Check.due("running: 0 also for a worn one", x.valve(0, 17), 0);
        Check.due("back: with the wear", x.valve(0, 18), 31);
    }

    private static void thresholdBack() {
        Check.sentence("Terms", "and plus the extra stick, if this is the way against its last one.");
        ValveTwins x = at(500);
        x.setValve(0, 2, 7);
        Check.due("running, back", x.valve(0, 18), 17);
        x.run(1);
        Check.due("at rest, back", x.valve(0, 18), 17);
        Check.due("at rest, on", x.valve(0, 17), 10);
        Check.due("17 back", go(x, 483), 0);
        Check.due("18 back", go(x, 482), -18);
        x.run(1);
        Check.due("back the other way", x.valve(0, 17), 17);
        Check.due("17 up", go(x, 499), 0);
        Check.due("18 up", go(x, 500), 18);
        x.putStem(0, 500);
        Check.due("no last way, up", x.valve(0, 17), 10);
        Check.due("no last way, down", x.valve(0, 18), 10);
    }

    private static void greatestThresholds() {
        Check.sentence("Terms", "a stick (0 to 300, 10 at first) and an extra stick for turning back (0 to 300");
        ValveTwins x = at(999);
        x.setValve(0, 1, 300);
        x.setValve(0, 2, 300);
        x.run(1);
        Check.due("600 back", go(x, 399), 0);
        Check.due("601 back", go(x, 398), -601);
    }

    private static void leastThresholds() {
        Check.sentence("Terms", "the stem moves if d is not s, and |d - s| is greater than the threshold");
        ValveTwins x = States.plain();
        x.setValve(0, 1, 0);
        x.setValve(0, 2, 0);
        Check.due("d is s", go(x, 0), 0);
        Check.due("1 up", go(x, 1), 1);
        Check.due("1 back", go(x, 0), -1);
        Check.due("it turned", x.valve(0, 13), 1);
        Check.due("d is s, while running", go(x, 0), 0);
        Check.due("then it is at rest", x.valve(0, 11), 0);
    }

    private static void noMoveAtTheDemand() {
        Check.sentence("Terms", "the stem moves if d is not s");
        ValveTwins x = at(500);
        x.setSignal(500);
        Check.due("run(1) at the demand", x.run(1), 0);
        Check.due("travel", x.valve(0, 12), 500);
        Check.due("last way", x.valve(0, 10), 1);
        Check.due("at rest", x.valve(0, 11), 0);
    }

    private static void moveAboveTheThreshold() {
        Check.sentence("Terms", "|d - s| is greater than the threshold for the way from s to d.");
        ValveTwins x = States.plain();
        Check.due("9", go(x, 9), 0);
        Check.due("10", go(x, 10), 0);
        Check.due("11", go(x, 11), 11);
        x.putStem(0, 500);
        Check.due("9 down", go(x, 491), 0);
        Check.due("10 down", go(x, 490), 0);
        Check.due("11 down", go(x, 489), -11);
    }

    private static void speed() {
        Check.sentence("Terms", "It moves by |d - s|, but at most by its speed");
        ValveTwins x = States.plain();
        x.setValve(0, 0, 300);
        Check.due("299", go(x, 299), 299);
        x.putStem(0, 0);
        Check.due("300", go(x, 300), 300);
        x.putStem(0, 0);
        Check.due("301: by 300", go(x, 301), 300);
        Check.due("301: and by 1, since it runs", go(x, 301), 1);
        x.putStem(0, 999);
        Check.due("down by 300", go(x, 698), -300);
        Check.due("and by 1", go(x, 698), -1);
        Check.due("and no more", go(x, 698), 0);
        x.setSignal(0);
        Check.due("ticks for 698", x.run(10), 3);
        Check.due("at 0", x.valve(0, 9), 0);
    }

    private static void travelAndReversals() {
        Check.sentence("Terms", "the travel increases by this; if its last way was the other one, there is a reversal; "
            + "this is its last way then, and it is running.");
        ValveTwins x = at(500);
        Check.valveIs("up", x, 0, 1000, 10, 20, 100, 0, 0, 1000, 0, 500, 500, 1, 1, 500, 0, 500, 0, 5, 0, 30, 50, 0);
        go(x, 400);
        Check.valveIs("down", x, 0, 1000, 10, 20, 100, 0, 0, 1000, 0, 400, 400, -1, 1, 600, 1, 600, 1, 9, 30, 0, 40, 0);
        go(x, 300);
        Check.valveIs("on", x, 0, 1000, 10, 20, 100, 0, 0, 1000, 0, 300, 300, -1, 1, 700, 1, 700, 1, 10, 30, 0, 30, 0);
        go(x, 950);
        Check.valveIs("up", x, 0, 1000, 10, 20, 100, 0, 0, 1000, 0, 950, 950, 1, 1, 1350, 2, 1350, 2, 19, 0, 30, 95, 0);
        x.putStem(0, 950);
        go(x, 900);
        Check.due("no reversal without a last way", x.valve(0, 13), 2);
        Check.due("travel", x.valve(0, 12), 1400);
    }

    private static void slowReversal() {
        Check.sentence("Terms", "if its last way was the other one, there is a reversal");
        ValveTwins x = at(500);
        x.setValve(0, 0, 40);
        x.setSignal(400);
        Check.due("three moves", x.run(5), 3);
        Check.due("one reversal", x.valve(0, 13), 1);
        Check.due("travel", x.valve(0, 12), 600);
        x.run(20);
        x.setSignal(440);
        Check.due("up by 40 behind a rest", x.run(1), 1);
        Check.due("a second reversal", x.valve(0, 13), 2);
    }

    private static void restEndsTheRunning() {
        Check.sentence("Terms", "If it does not move, it is at rest.");
        ValveTwins x = at(500);
        Check.due("30 back while running up", go(x, 470), 0);
        Check.due("at rest", x.valve(0, 11), 0);
        Check.due("10 up at rest", go(x, 510), 0);
        Check.due("11 up at rest", go(x, 511), 11);
        Check.due("running", x.valve(0, 11), 1);
    }

    private static void bothValves() {
        Check.sentence("Terms", "A valve has a stem with a position s");
        ValveTwins x = new ValveTwins();
        x.setRange(1, 0, 500, true);
        x.setValve(0, 0, 400);
        x.setValve(1, 0, 700);
        x.putStem(1, 900);
        x.setSignal(400);
        x.run(1);
        Check.valveIs("up", x, 0, 400, 10, 20, 100, 0, 0, 500, 0, 800, 400, 1, 1, 400, 0, 400, 0, 4, 0, 30, 40, 0);
        Check.valveIs("down", x, 1, 700, 10, 20, 100, 0, 0, 500, 1, 200, 200, -1, 1, 700, 0, 700, 0, 7, 30, 0, 20, 0);
    }
}
