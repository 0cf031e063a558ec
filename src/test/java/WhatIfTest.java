/** Promises 14 to 21: the questions that change nothing. */
public final class WhatIfTest {
    private static final int NONE = ValveTwins.NONE;
    private static final int[] FAR = {Integer.MIN_VALUE, Integer.MAX_VALUE};

    public static void main(String[] args) {
        idealFlowSignal();
        idealFlowReturns();
        idealFlowOutOfRange();
        signalForFlow();
        signalForLeast();
        signalForNone();
        signalForOutOfRange();
        flatSignalsCount();
        flatSignalsEnds();
        firstFallLeast();
        firstFallEnds();
        firstFallNone();
        moveForSign();
        moveForValve();
        moveForSignal();
        moveForZero();
        moveForSpeed();
        moveForWithoutController();
        moveForNoValve();
        moveForOutOfRange();
        restAfterThatOne();
        restAfterMost();
        restAfterController();
        restAfterOutOfRange();
        wornAfterNow();
        wornAfterTicks();
        wornAfterValve();
        wornAfterMost();
        wornAfterNone();
        wornAfterByReversals();
        wornAfterNoValve();
        wornAfterOutOfRange();
        missedWithinTicks();
        missedWithinController();
        missedWithinOutOfRange();
        sameAsRunning();
        changeNothing();
        Check.finish();
    }

    // ---- promise 14

    private static void idealFlowSignal() {
        Check.sentence("Promise 14", "`signal`: 0 to 1000");
        ValveTwins x = new ValveTwins();
        int[][] rows = {{0, 0}, {1, 0}, {4, 0}, {5, 1}, {499, 99}, {500, 100}, {501, 100}, {505, 101}, {999, 199},
            {1000, 200}};
        for (int[] row : rows) {
            Check.due("idealFlow(" + row[0] + ")", x.idealFlow(row[0]), row[1]);
        }
    }

    private static void idealFlowReturns() {
        Check.sentence("Promise 14", "Returns the ideal flow for a signal.");
        ValveTwins x = new ValveTwins();
        x.setRange(1, 0, 1000, true);
        x.setValve(1, 4, 2);
        x.setValve(1, 3, 1000);
        // The demand of the valve 1 is 700 at 300: 1000 - 90.
        Check.due("idealFlow(300)", x.idealFlow(300), 60 + 910);
        Check.due("idealFlow(0)", x.idealFlow(0), 1000);
        Check.due("idealFlow(1000)", x.idealFlow(1000), 100);
        x.setValve(0, 3, 1000);
        x.setRange(0, 0, 1000, true);
        Check.due("the greatest one", x.idealFlow(0), 2000);
        Check.due("the signal itself", x.pair(0), 0);
        ValveTwins leaky = States.busy();
        leaky.setRange(0, 1, 1000, false);
        leaky.setRange(1, 1, 1000, false);
        leaky.putStem(0, 0);
        Check.due("no leak in it", leaky.idealFlow(0), 0);
    }

    private static void idealFlowOutOfRange() {
        Check.sentence("Promise 14", "Throws `IllegalArgumentException` if signal is out of range");
        for (int signal : new int[] {-1, 1001, FAR[0], FAR[1]}) {
            Check.refused("idealFlow(" + signal + ")", Check.BAD_VALUE, States::busy, x -> x.idealFlow(signal));
        }
    }

    // ---- promise 15

    private static void signalForFlow() {
        Check.sentence("Promise 15", "`flow`: 0 to 2000");
        ValveTwins x = new ValveTwins();
        Check.due("signalFor(0)", x.signalFor(0), 0);
        Check.due("signalFor(1)", x.signalFor(1), 5);
        x.setValve(0, 3, 1000);
        x.setValve(1, 3, 1000);
        Check.due("signalFor(1999)", x.signalFor(1999), 1000);
        Check.due("signalFor(1998)", x.signalFor(1998), 999);
        Check.due("signalFor(2000)", x.signalFor(2000), 1000);
    }

    private static void signalForLeast() {
        Check.sentence("Promise 15", "Returns the least signal whose ideal flow is at least some flow.");
        ValveTwins x = new ValveTwins();
        Check.due("signalFor(99)", x.signalFor(99), 495);
        Check.due("signalFor(100)", x.signalFor(100), 500);
        Check.due("signalFor(101)", x.signalFor(101), 505);
        Check.due("signalFor(200)", x.signalFor(200), 1000);
        x.setRange(0, 100, 200, true);
        Check.due("signalFor(100), falling at first", x.signalFor(100), 0);
        Check.due("signalFor(0), falling at first", x.signalFor(0), 0);
        x.setRange(0, 700, 900, false);
        x.setRange(1, 700, 900, false);
        // Each floor alone: at 701 both are 100 * 5 / 1000, at 702 both are 1.
        Check.due("signalFor(1) of two floors", x.signalFor(1), 702);
        Check.due("signalFor(2) of two floors", x.signalFor(2), 702);
        Check.due("signalFor(199)", x.signalFor(199), 900);
        Check.due("signalFor(200) with one range", x.signalFor(200), 900);
        x.setRange(0, 0, 1, true);
        x.setRange(1, 999, 1000, false);
        Check.due("signalFor(100) of two that jump", x.signalFor(100), 0);
        x.setValve(1, 3, 101);
        Check.due("signalFor(101) of two that jump", x.signalFor(101), 1000);
        x.setRange(0, 1, 2, true);
        x.setRange(1, 0, 1, false);
        Check.due("signalFor(101) of a peak", x.signalFor(101), 1);
        Check.due("signalFor(201) of a peak", x.signalFor(201), 1);
    }

    private static void signalForNone() {
        Check.sentence("Promise 15", "Returns the signal; NONE if there is none.");
        ValveTwins x = new ValveTwins();
        Check.due("signalFor(201)", x.signalFor(201), NONE);
        Check.due("signalFor(2000)", x.signalFor(2000), NONE);
        x.setValve(0, 3, 0);
        x.setValve(1, 3, 0);
        Check.due("signalFor(1) of nothing", x.signalFor(1), NONE);
        Check.due("signalFor(0) of nothing", x.signalFor(0), 0);
        x.setValve(0, 3, 1000);
        x.setValve(1, 3, 999);
        Check.due("signalFor(2000) of 1999", x.signalFor(2000), NONE);
        Check.due("signalFor(1999) of 1999", x.signalFor(1999), 1000);
    }

    private static void signalForOutOfRange() {
        Check.sentence("Promise 15", "Throws `IllegalArgumentException` if flow is out of range");
        for (int flow : new int[] {-1, 2001, FAR[0], FAR[1]}) {
            Check.refused("signalFor(" + flow + ")", Check.BAD_VALUE, States::busy, x -> x.signalFor(flow));
        }
    }

    // ---- promise 16

    private static void flatSignalsCount() {
        Check.sentence("Promise 16", "Counts the signals from 1 to 1000 for which neither valve has another demand than "
            + "for the signal 1 less.");
        ValveTwins x = new ValveTwins();
        Check.due("flatSignals() at first", x.flatSignals(), 0);
        x.setRange(1, 0, 500, false);
        Check.due("flatSignals() above 500", x.flatSignals(), 500);
        x.setRange(1, 0, 500, true);
        Check.due("flatSignals() above 500, one falls", x.flatSignals(), 500);
        x.setRange(1, 0, 499, true);
        Check.due("flatSignals() above 500, one ends before", x.flatSignals(), 500);
        x.setRange(1, 501, 1000, true);
        Check.due("flatSignals() with a gap of 1", x.flatSignals(), 1);
        x.setRange(1, 502, 1000, true);
        Check.due("flatSignals() with a gap of 2", x.flatSignals(), 2);
        x.setRange(1, 400, 900, false);
        Check.due("flatSignals() above 900", x.flatSignals(), 100);
        // The flow does not count, only the demand.
        x.setValve(0, 3, 0);
        x.setValve(1, 3, 0);
        Check.due("flatSignals() of nothing", x.flatSignals(), 100);
    }

    private static void flatSignalsEnds() {
        Check.sentence("Promise 16", "the signals from 1 to 1000");
        ValveTwins x = new ValveTwins();
        x.setRange(0, 0, 1, false);
        x.setRange(1, 999, 1000, false);
        Check.due("all but 1 and 1000", x.flatSignals(), 998);
        x.setRange(0, 999, 1000, true);
        Check.due("all but 1000", x.flatSignals(), 999);
        x.setRange(0, 0, 1, true);
        x.setRange(1, 0, 1, true);
        Check.due("all but 1", x.flatSignals(), 999);
        x.setRange(1, 0, 1000, true);
        Check.due("none", x.flatSignals(), 0);
        x.setRange(1, 1, 1000, true);
        Check.due("none, since one moves at 1 and the other behind", x.flatSignals(), 0);
        x.setRange(1, 2, 999, true);
        Check.due("2 and 1000", x.flatSignals(), 2);
    }

    // ---- promise 17

    private static void firstFallLeast() {
        Check.sentence("Promise 17", "Returns the least signal, 1 or more, whose ideal flow is less than that of the "
            + "signal 1 less.");
        ValveTwins x = new ValveTwins();
        x.setRange(0, 300, 700, true);
        x.setRange(1, 700, 900, false);
        Check.due("firstFall() behind 300", x.firstFall(), 301);
        x.setValve(0, 3, 2);
        x.setValve(0, 4, 2);
        // 1000 - floor(s * s / 1000) for the share s is below 1000 from s = 32 on: 13 * 2.5.
        Check.due("firstFall() of a late one", x.firstFall(), 313);
        x.setRange(1, 300, 700, false);
        // From 312 to 313 the valve 0 falls from 2 to 1, the valve 1 rises from 200 * 30 / 1000 to 200 * 32 / 1000.
        x.setValve(1, 3, 200);
        Check.due("firstFall() of a fall that the other does not fill", x.firstFall(), 313);
        x.setValve(1, 3, 1000);
        Check.due("firstFall() of a fall that the other fills", x.firstFall(), NONE);
    }

    private static void firstFallEnds() {
        Check.sentence("Promise 17", "Returns the least signal, 1 or more");
        ValveTwins x = new ValveTwins();
        x.setRange(0, 0, 1, true);
        Check.due("at once", x.firstFall(), 1);
        x.setRange(0, 1, 2, true);
        Check.due("at 2", x.firstFall(), 2);
        x.setRange(1, 1, 2, false);
        x.setRange(0, 998, 999, true);
        Check.due("at 999", x.firstFall(), 999);
        x.setRange(0, 999, 1000, true);
        Check.due("at 1000", x.firstFall(), 1000);
    }

    private static void firstFallNone() {
        Check.sentence("Promise 17", "Returns the signal; NONE if there is none.");
        ValveTwins x = new ValveTwins();
        Check.due("both rise", x.firstFall(), NONE);
        x.setRange(0, 0, 1000, true);
        x.setRange(1, 0, 1000, false);
        Check.due("one falls as the other rises, but the floors", x.firstFall(), 1);
        x.setValve(0, 3, 1000);
        x.setValve(1, 3, 1000);
        Check.due("one falls just as the other rises", x.firstFall(), NONE);
        x.setValve(1, 3, 999);
        Check.due("one falls a little more", x.firstFall(), 1);
        x.setValve(0, 3, 0);
        Check.due("nothing falls", x.firstFall(), NONE);
    }

    // ---- promise 18

    private static ValveTwins resting() {
        ValveTwins x = States.plain();
        x.setSignal(500);
        x.run(2);
        return x;
    }

    private static void moveForSign() {
        Check.sentence("Promise 18", "Returns by how much, with a sign (0 if it would not move).");
        ValveTwins x = resting();
        Check.due("up", x.moveFor(0, 700), 200);
        Check.due("down", x.moveFor(0, 400), -100);
        Check.due("as it is", x.moveFor(0, 500), 0);
        Check.due("the valve 1", x.moveFor(1, 1000), 1000);
        Check.due("the valve 1, not", x.moveFor(1, 999), 0);
    }

    private static void moveForValve() {
        Check.sentence("Promise 18", "`valve`: 0 or 1");
        ValveTwins x = new ValveTwins();
        x.putStem(0, 100);
        x.putStem(1, 200);
        Check.due("moveFor(0, 750)", x.moveFor(0, 750), 900);
        Check.due("moveFor(1, 750)", x.moveFor(1, 750), 300);
        Check.refused("moveFor(-1, 750)", Check.NO_VALVE, States::busy, y -> y.moveFor(-1, 750));
        Check.refused("moveFor(2, 750)", Check.NO_VALVE, States::busy, y -> y.moveFor(2, 750));
    }

    private static void moveForSignal() {
        Check.sentence("Promise 18", "`signal`: 0 to 1000");
        ValveTwins x = resting();
        Check.due("the least", x.moveFor(0, 0), -500);
        Check.due("the next", x.moveFor(0, 1), -499);
        Check.due("the greatest", x.moveFor(0, 1000), 500);
        Check.due("the one before", x.moveFor(0, 999), 499);
    }

    private static void moveForZero() {
        Check.sentence("Promise 18", "(0 if it would not move)");
        ValveTwins x = resting();
        Check.due("10 more", x.moveFor(0, 510), 0);
        Check.due("11 more", x.moveFor(0, 511), 11);
        Check.due("30 back", x.moveFor(0, 470), 0);
        Check.due("31 back", x.moveFor(0, 469), -31);
        x.setSignal(600);
        x.run(1);
        Check.due("1 more while running", x.moveFor(0, 601), 1);
        Check.due("30 back while running", x.moveFor(0, 570), 0);
    }

    private static void moveForSpeed() {
        Check.sentence("Promise 18", "Tells whether the stem of a valve would move in the next tick");
        ValveTwins x = resting();
        x.setValve(0, 0, 25);
        Check.due("up by its speed", x.moveFor(0, 1000), 25);
        Check.due("down by its speed", x.moveFor(0, 0), -25);
        Check.due("up by less", x.moveFor(0, 524), 24);
        Check.due("down by its speed, from above 30", x.moveFor(0, 469), -25);
    }

    private static void moveForWithoutController() {
        Check.sentence("Promise 18", "if the signal was another one, and the controller off.");
        ValveTwins x = resting();
        x.tune(1, 10000);
        x.tune(2, 2000);
        x.tune(0, 1);
        Check.due("as it is", x.moveFor(0, 500), 0);
        Check.due("20 more", x.moveFor(0, 520), 20);
        Check.due("it is on still", x.pair(1), 1);
    }

    private static void moveForNoValve() {
        Check.sentence("Promise 18", "Throws `IndexOutOfBoundsException` if there is no such valve");
        for (int valve : Check.WRONG_VALVES) {
            Check.refused("moveFor(" + valve + ", 0)", Check.NO_VALVE, States::busy, x -> x.moveFor(valve, 0));
        }
    }

    private static void moveForOutOfRange() {
        Check.sentence("Promise 18", "Throws `IllegalArgumentException` if signal is out of range");
        for (int signal : new int[] {-1, 1001, FAR[0], FAR[1]}) {
            Check.refused("moveFor(0, " + signal + ")", Check.BAD_VALUE, States::busy, x -> x.moveFor(0, signal));
            Check.refused("moveFor(1, " + signal + ")", Check.BAD_VALUE, States::busy, x -> x.moveFor(1, signal));
        }
    }

    // ---- promise 19

    private static ValveTwins slow(int speed) {
        ValveTwins x = States.plain();
        x.setSignal(998);
        x.setValve(0, 0, speed);
        return x;
    }

    private static void restAfterThatOne() {
        Check.sentence("Promise 19", "Returns the number of ticks, that one included; NONE if there is none within most "
            + "ticks.");
        Check.due("at rest at once", new ValveTwins().restAfter(1), 1);
        Check.due("at rest at once, of 500", new ValveTwins().restAfter(500), 1);
        Check.due("one move", slow(1000).restAfter(500), 2);
        Check.due("ten moves", slow(100).restAfter(500), 11);
        Check.due("ten moves, of 11", slow(100).restAfter(11), 11);
        Check.due("ten moves, of 10", slow(100).restAfter(10), NONE);
        Check.due("ten moves, of 1", slow(100).restAfter(1), NONE);
        ValveTwins both = slow(100);
        both.setRange(1, 0, 500, false);
        both.setValve(1, 0, 50);
        Check.due("twenty moves of the valve 1", both.restAfter(500), 21);
    }

    private static void restAfterMost() {
        Check.sentence("Promise 19", "`most`: 1 to 500");
        ValveTwins x = slow(2);
        Check.due("499 moves", x.restAfter(500), 500);
        Check.due("499 moves, of 499", x.restAfter(499), NONE);
        x.setSignal(999);
        Check.due("500 moves", x.restAfter(500), NONE);
        x.run(1);
        Check.due("499 of 500 moves", x.restAfter(500), 500);
        Check.due("the least", x.restAfter(1), NONE);
        Check.due("the least at rest", new ValveTwins().restAfter(1), 1);
    }

    private static void restAfterController() {
        Check.sentence("Promise 19", "Tells how many ticks must pass until one has passed in which no stem moved.");
        ValveTwins x = new ValveTwins();
        x.tune(1, 10000);
        x.tune(2, 50);
        x.tune(3, 100);
        x.tune(0, 1);
        // The signal goes 100, 200, 300, then back and forth about 250.
        Check.due("a restless one", x.restAfter(500), NONE);
        x.tune(0, 0);
        Check.due("without the controller", x.restAfter(500), 1);
        x.setSignal(5);
        Check.due("a stem that sticks rests", x.restAfter(1), 1);
    }

    private static void restAfterOutOfRange() {
        Check.sentence("Promise 19", "Throws `IllegalArgumentException` if most is out of range");
        for (int most : new int[] {0, -1, 501, FAR[0], FAR[1]}) {
            Check.refused("restAfter(" + most + ")", Check.BAD_VALUE, States::busy, x -> x.restAfter(most));
        }
    }

    // ---- promise 20

    private static void wornAfterNow() {
        Check.sentence("Promise 20", "Returns the number of ticks (0 if it is so now)");
        ValveTwins x = slow(100);
        Check.due("0 of a new one", x.wornAfter(0, 0, 0), 0);
        Check.due("0 of a new one, of 500", x.wornAfter(0, 0, 500), 0);
        x.run(4);
        Check.due("4 of 4", x.wornAfter(0, 4, 0), 0);
        Check.due("3 of 4", x.wornAfter(0, 3, 500), 0);
        Check.due("5 of 4", x.wornAfter(0, 5, 500), 1);
        Check.due("5 of 4, of 0", x.wornAfter(0, 5, 0), NONE);
        Check.due("5 of 4, of 1", x.wornAfter(0, 5, 1), 1);
    }

    private static void wornAfterTicks() {
        Check.sentence("Promise 20", "Tells how many ticks must pass until the wear of a valve is at least some number.");
        ValveTwins x = slow(100);
        Check.due("1", x.wornAfter(0, 1, 500), 1);
        Check.due("9", x.wornAfter(0, 9, 500), 9);
        // 998 is less than 1000: the wear stays at 9.
        Check.due("10", x.wornAfter(0, 10, 500), NONE);
        Check.due("of the other valve", x.wornAfter(1, 1, 500), NONE);
        x.setRange(1, 0, 500, false);
        Check.due("of the other valve, in one move", x.wornAfter(1, 10, 500), 1);
        Check.due("of the other valve, no more", x.wornAfter(1, 11, 500), NONE);
        ValveTwins y = slow(2);
        Check.due("9 in 450", y.wornAfter(0, 9, 500), 450);
        Check.due("9 in 450, of 450", y.wornAfter(0, 9, 450), 450);
        Check.due("9 in 450, of 449", y.wornAfter(0, 9, 449), NONE);
    }

    private static void wornAfterValve() {
        Check.sentence("Promise 20", "`valve`: 0 or 1");
        ValveTwins x = new ValveTwins();
        x.setValve(0, 0, 100);
        x.setValve(1, 0, 200);
        x.setSignal(1000);
        Check.due("of the valve 0", x.wornAfter(0, 10, 500), 10);
        Check.due("of the valve 1", x.wornAfter(1, 10, 500), 5);
        Check.refused("wornAfter(-1, 0, 0)", Check.NO_VALVE, States::busy, y -> y.wornAfter(-1, 0, 0));
        Check.refused("wornAfter(2, 0, 0)", Check.NO_VALVE, States::busy, y -> y.wornAfter(2, 0, 0));
    }

    private static void wornAfterMost() {
        Check.sentence("Promise 20", "`most`: 0 to 500");
        ValveTwins x = slow(2);
        Check.due("2 in 100, of 0", x.wornAfter(0, 2, 0), NONE);
        Check.due("2 in 100, of 1", x.wornAfter(0, 2, 1), NONE);
        Check.due("2 in 100, of 99", x.wornAfter(0, 2, 99), NONE);
        Check.due("2 in 100, of 100", x.wornAfter(0, 2, 100), 100);
        Check.due("2 in 100, of 499", x.wornAfter(0, 2, 499), 100);
        Check.due("2 in 100, of 500", x.wornAfter(0, 2, 500), 100);
        Check.refused("of -1", Check.BAD_VALUE, States::busy, y -> y.wornAfter(0, 2, -1));
        Check.refused("of 501", Check.BAD_VALUE, States::busy, y -> y.wornAfter(0, 2, 501));
    }

    private static void wornAfterNone() {
        Check.sentence("Promise 20", "NONE if it would not be so within most ticks.");
        ValveTwins x = new ValveTwins();
        Check.due("the greatest wear", x.wornAfter(0, 100000, 500), NONE);
        Check.due("the greatest wear, of 0", x.wornAfter(1, 100000, 0), NONE);
        Check.due("1 at rest", x.wornAfter(0, 1, 500), NONE);
        x.setValve(0, 0, 1);
        x.setSignal(500);
        Check.due("5 in 500", x.wornAfter(0, 5, 500), 500);
        Check.due("5 in 500, of 499", x.wornAfter(0, 5, 499), NONE);
        Check.due("6 in 600", x.wornAfter(0, 6, 500), NONE);
    }

    private static void wornAfterByReversals() {
        Check.sentence("Promise 20", "until the wear of a valve is at least some number.");
        ValveTwins x = new ValveTwins();
        x.setValve(0, 1, 0);
        x.setValve(0, 2, 0);
        x.tune(1, 10000);
        x.tune(2, 50);
        x.tune(3, 20);
        x.setSignal(245);
        x.tune(0, 1);
        // 265 (530), 245 (490), 265 ..: 5 of the travel, then 3 for each reversal with 40 of travel.
        Check.due("5", x.wornAfter(0, 5, 500), 1);
        Check.due("6", x.wornAfter(0, 6, 500), 2);
        Check.due("8", x.wornAfter(0, 8, 500), 2);
        Check.due("9", x.wornAfter(0, 9, 500), 3);
        Check.due("12", x.wornAfter(0, 12, 500), 3 + 1);
    }

    private static void wornAfterNoValve() {
        Check.sentence("Promise 20", "Throws `IndexOutOfBoundsException` if there is no such valve");
        for (int valve : Check.WRONG_VALVES) {
            Check.refused("wornAfter(" + valve + ", 0, 0)", Check.NO_VALVE, States::busy, x -> x.wornAfter(valve, 0, 0));
        }
    }

    private static void wornAfterOutOfRange() {
        Check.sentence("Promise 20", "Throws `IllegalArgumentException` if wear or most is out of range");
        int[][] wrong = {{-1, 0}, {100001, 0}, {0, -1}, {0, 501}, {-1, 501}, {100001, -1}, {FAR[0], 5}, {FAR[1], 5},
            {5, FAR[0]}, {5, FAR[1]}};
        for (int[] row : wrong) {
            String call = "wornAfter(.., " + row[0] + ", " + row[1] + ")";
            Check.refused(call, Check.BAD_VALUE, States::busy, x -> x.wornAfter(0, row[0], row[1]));
            Check.refused(call, Check.BAD_VALUE, States::busy, x -> x.wornAfter(1, row[0], row[1]));
        }
        Check.sentence("Promise 20", "`wear`: 0 to 100000");
        Check.due("the greatest of both", new ValveTwins().wornAfter(0, 100000, 500), NONE);
        Check.due("the least of both", new ValveTwins().wornAfter(1, 0, 0), 0);
    }

    // ---- promise 21

    private static void missedWithinTicks() {
        Check.sentence("Promise 21", "`ticks`: 1 to 500");
        ValveTwins x = new ValveTwins();
        Check.due("missedWithin(500) of none", x.missedWithin(500), 0);
        x.setValve(0, 0, 100);
        x.setSignal(500);
        Check.due("missedWithin(1)", x.missedWithin(1), 90);
        Check.due("missedWithin(2)", x.missedWithin(2), 170);
        Check.due("missedWithin(3)", x.missedWithin(3), 240);
        Check.due("missedWithin(9)", x.missedWithin(9), 450);
        Check.due("missedWithin(500)", x.missedWithin(500), 450);
        x.setValve(0, 0, 1000);
        x.setSignal(5);
        Check.due("missedWithin(499), stuck", x.missedWithin(499), 499);
        Check.due("missedWithin(500), stuck", x.missedWithin(500), 500);
    }

    private static void missedWithinController() {
        Check.sentence("Promise 21", "Returns the missed volume that would be added within some ticks.");
        ValveTwins x = new ValveTwins();
        x.setValve(0, 0, 100);
        x.setSignal(500);
        x.run(2);
        Check.due("missed so far", x.pair(9), 170);
        Check.due("missedWithin(1) behind these", x.missedWithin(1), 70);
        Check.due("missed so far still", x.pair(9), 170);
        x.tune(1, 1000);
        x.tune(2, 0);
        x.tune(0, 1);
        // The flow is 20: the signal falls to 480, the ideal flow to 96, and the stem moves on to 300.
        Check.due("missedWithin(1) with the controller", x.missedWithin(1), 66);
        Check.due("the signal stays", x.pair(0), 500);
        ValveTwins most = new ValveTwins();
        for (int valve = 0; valve <= 1; valve++) {
            most.setValve(valve, 3, 1000);
            most.setValve(valve, 1, 300);
            most.setValve(valve, 2, 300);
            most.putStem(valve, 700);
        }
        most.setSignal(1000);
        Check.due("600 missed in each of 500", most.missedWithin(500), 300000);
    }

    private static void missedWithinOutOfRange() {
        Check.sentence("Promise 21", "Throws `IllegalArgumentException` if ticks is out of range");
        for (int ticks : new int[] {0, -1, 501, FAR[0], FAR[1]}) {
            Check.refused("missedWithin(" + ticks + ")", Check.BAD_VALUE, States::busy, x -> x.missedWithin(ticks));
        }
    }

    // ---- all of them

    /** What a question foretells is what comes, tick by tick, also over the end of a day and of the full ledger. */
    private static void sameAsRunning() {
        Check.sentence("Terms", "---- what if, which changes nothing.");
        for (int ticks : new int[] {1, 2, 57, 58, 59, 158, 500}) {
            ValveTwins x = States.busy();
            int missed = x.pair(9) + x.missedWithin(ticks);
            int move = x.moveFor(0, 300);
            x.run(ticks);
            Check.due("missedWithin(" + ticks + ")", x.pair(9), missed);
            ValveTwins y = States.busy();
            y.tune(0, 0);
            y.setSignal(300);
            int before = y.valve(0, 9);
            y.run(1);
            Check.due("moveFor(0, 300)", y.valve(0, 9) - before, move);
        }
        ValveTwins x = States.busy();
        int wear = x.valve(1, 16) + 25;
        int ticks = x.wornAfter(1, wear, 500);
        Check.count(ticks > 1, "it is worn too soon for this test");
        x.run(ticks - 1);
        Check.count(x.valve(1, 16) < wear, "wornAfter() is too late");
        x.run(1);
        Check.count(x.valve(1, 16) >= wear, "wornAfter() is too soon");
    }

    private static void changeNothing() {
        Check.sentence("Terms", "---- what if, which changes nothing.");
        Check.changesNothing("idealFlow", States::busy, x -> x.idealFlow(700));
        Check.changesNothing("signalFor", States::busy, x -> x.signalFor(700));
        Check.changesNothing("flatSignals", States::busy, x -> x.flatSignals());
        Check.changesNothing("firstFall", States::busy, x -> x.firstFall());
        Check.changesNothing("moveFor", States::busy, x -> x.moveFor(0, 900));
        Check.changesNothing("restAfter", States::busy, x -> x.restAfter(500));
        Check.changesNothing("wornAfter", States::busy, x -> x.wornAfter(0, 100000, 500));
        Check.changesNothing("missedWithin", States::busy, x -> x.missedWithin(500));
        Check.changesNothing("two behind each other", States::full, x -> {
            x.missedWithin(500);
            x.restAfter(1);
        });
        ValveTwins x = States.busy();
        int first = x.missedWithin(200);
        x.restAfter(500);
        x.wornAfter(1, 100000, 300);
        Check.due("the same question again", x.missedWithin(200), first);
    }
}
