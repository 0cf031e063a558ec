/** Promises 14 to 21: the questions that change nothing. */
public final class WhatIfTest {
    private static final int[] WRONG_VALVES = {-1, 2, Integer.MIN_VALUE, Integer.MAX_VALUE};
    private static final int[] WRONG_SIGNALS = {-1, 1001, Integer.MIN_VALUE, Integer.MAX_VALUE};
    private static final int[] WRONG_TICKS = {0, -1, 501, Integer.MIN_VALUE, Integer.MAX_VALUE};

    public static void main(String[] args) {
        promise14();
        promise15();
        promise16();
        promise17();
        promise18();
        promise19();
        promise19WithTheController();
        promise20();
        promise21();
        changeNothing();
        Check.finish();
    }

    private static void promise14() {
        ValveTwins x = new ValveTwins();
        Check.due("idealFlow(0)", x.idealFlow(0), 0);
        Check.due("idealFlow(4)", x.idealFlow(4), 0);
        Check.due("idealFlow(5)", x.idealFlow(5), 1);
        Check.due("idealFlow(500)", x.idealFlow(500), 100);
        Check.due("idealFlow(505)", x.idealFlow(505), 101);
        Check.due("idealFlow(1000)", x.idealFlow(1000), 200);
        x.setRange(1, 0, 1000, true);
        x.setValve(1, 4, 2);
        x.setValve(1, 3, 1000);
        // The demand of the valve 1 is 700 at 300: 1000 - 90.
        Check.due("idealFlow(300)", x.idealFlow(300), 60 + 910);
        for (int signal : WRONG_SIGNALS) {
            Check.refused("idealFlow(" + signal + ")", x, Check.BAD_VALUE, () -> x.idealFlow(signal));
        }
        ValveTwins worn = new ValveTwins();
        worn.setValve(0, 2, 0);
        for (int swing = 0; swing < 4; swing++) {
            worn.setSignal(swing % 2 == 0 ? 500 : 0);
            worn.run(1);
        }
        Check.due("it leaks", worn.pair(6), 2);
        Check.due("but not ideally", worn.idealFlow(0), 0);
    }

    private static void promise15() {
        ValveTwins x = new ValveTwins();
        Check.due("signalFor(0)", x.signalFor(0), 0);
        Check.due("signalFor(1)", x.signalFor(1), 5);
        Check.due("signalFor(200)", x.signalFor(200), 1000);
        Check.due("signalFor(201)", x.signalFor(201), ValveTwins.NONE);
        Check.due("signalFor(2000)", x.signalFor(2000), ValveTwins.NONE);
        x.setRange(0, 100, 200, true);
        Check.due("signalFor(100) when it falls first", x.signalFor(100), 0);
        Check.due("signalFor(101) when it falls first", x.signalFor(101), ValveTwins.NONE);
        x.setRange(0, 700, 900, false);
        Check.due("signalFor(200) with an overlap", x.signalFor(200), 1000);
        x.setRange(1, 700, 900, false);
        Check.due("signalFor(200) with one range", x.signalFor(200), 900);
        for (int flow : new int[] {-1, 2001, Integer.MIN_VALUE, Integer.MAX_VALUE}) {
            Check.refused("signalFor(" + flow + ")", x, Check.BAD_VALUE, () -> x.signalFor(flow));
        }
    }

    private static void promise16() {
        ValveTwins x = new ValveTwins();
        Check.due("flatSignals() at first", x.flatSignals(), 0);
        x.setRange(1, 0, 500, false);
        Check.due("flatSignals() above 500", x.flatSignals(), 500);
        x.setRange(1, 501, 1000, true);
        Check.due("flatSignals() with a gap of 1", x.flatSignals(), 1);
        x.setRange(0, 0, 1, false);
        x.setRange(1, 999, 1000, false);
        Check.due("flatSignals() at both ends", x.flatSignals(), 998);
        x.setRange(0, 0, 1000, true);
        Check.due("flatSignals() with all", x.flatSignals(), 0);
        x.setRange(0, 1, 2, true);
        x.setRange(1, 1, 2, false);
        Check.due("flatSignals() but for 2", x.flatSignals(), 999);
    }

    private static void promise17() {
        ValveTwins x = new ValveTwins();
        Check.due("firstFall() at first", x.firstFall(), ValveTwins.NONE);
        x.setRange(0, 0, 500, true);
        Check.due("firstFall() at once", x.firstFall(), 1);
        x.setRange(0, 300, 700, true);
        x.setRange(1, 700, 900, false);
        Check.due("firstFall() behind 300", x.firstFall(), 301);
        x.setValve(0, 3, 2);
        // Of the size 2, a demand below 1000 lets 1 through.
        Check.due("firstFall() of a small one", x.firstFall(), 301);
        x.setValve(0, 4, 2);
        // 1000 - floor(s * s / 1000) for the share s is below 1000 from s = 32 on: 13 * 2.5.
        Check.due("firstFall() of a late one", x.firstFall(), 313);
        x.setRange(0, 999, 1000, true);
        Check.due("firstFall() at last", x.firstFall(), 1000);
        x.setValve(0, 3, 0);
        Check.due("firstFall() of none", x.firstFall(), ValveTwins.NONE);
    }

    private static void promise18() {
        ValveTwins x = new ValveTwins();
        x.setSignal(100);
        x.run(2);
        Check.due("moveFor(0, 100)", x.moveFor(0, 100), 0);
        Check.due("moveFor(0, 105)", x.moveFor(0, 105), 0);
        Check.due("moveFor(0, 106)", x.moveFor(0, 106), 12);
        Check.due("moveFor(0, 85)", x.moveFor(0, 85), 0);
        Check.due("moveFor(0, 84)", x.moveFor(0, 84), -32);
        Check.due("moveFor(0, 1000)", x.moveFor(0, 1000), 800);
        Check.due("moveFor(1, 506)", x.moveFor(1, 506), 12);
        x.setValve(0, 0, 25);
        Check.due("moveFor(0, 1000) by its speed", x.moveFor(0, 1000), 25);
        Check.due("moveFor(0, 0) by its speed", x.moveFor(0, 0), -25);
        x.tune(1, 10000);
        x.tune(2, 2000);
        x.tune(0, 1);
        Check.due("moveFor(0, 100) with the controller on", x.moveFor(0, 100), 0);
        for (int valve : WRONG_VALVES) {
            Check.refused("moveFor(" + valve + ", 0)", x, Check.NO_VALVE, () -> x.moveFor(valve, 0));
            Check.refused("moveFor(" + valve + ", -1)", x, Check.NO_VALVE, () -> x.moveFor(valve, -1));
        }
        for (int signal : WRONG_SIGNALS) {
            Check.refused("moveFor(1, " + signal + ")", x, Check.BAD_VALUE, () -> x.moveFor(1, signal));
        }
    }

    private static void promise19() {
        ValveTwins x = new ValveTwins();
        Check.due("restAfter(1) at rest", x.restAfter(1), 1);
        x.setSignal(1000);
        x.setValve(1, 0, 100);
        Check.due("restAfter(11)", x.restAfter(11), 11);
        Check.due("restAfter(500)", x.restAfter(500), 11);
        Check.due("restAfter(10)", x.restAfter(10), ValveTwins.NONE);
        x.setValve(1, 0, 2);
        Check.due("restAfter(500) of a slow one", x.restAfter(500), ValveTwins.NONE);
        x.run(2);
        Check.due("restAfter(499) of a slow one", x.restAfter(499), 499);
        for (int most : WRONG_TICKS) {
            Check.refused("restAfter(" + most + ")", x, Check.BAD_VALUE, () -> x.restAfter(most));
        }
    }

    private static void promise19WithTheController() {
        ValveTwins x = new ValveTwins();
        x.tune(1, 10000);
        x.tune(2, 50);
        x.tune(3, 100);
        x.tune(0, 1);
        // The signal goes 100, 200, 300, then back and forth about 250.
        Check.due("restAfter(500) of a restless one", x.restAfter(500), ValveTwins.NONE);
        x.tune(0, 0);
        Check.due("restAfter(500) without it", x.restAfter(500), 1);
    }

    private static void promise20() {
        ValveTwins x = new ValveTwins();
        x.setValve(0, 0, 100);
        x.setSignal(500);
        Check.due("wornAfter(0, 0, 0)", x.wornAfter(0, 0, 0), 0);
        Check.due("wornAfter(0, 1, 0)", x.wornAfter(0, 1, 0), ValveTwins.NONE);
        Check.due("wornAfter(0, 3, 3)", x.wornAfter(0, 3, 3), 3);
        Check.due("wornAfter(0, 3, 2)", x.wornAfter(0, 3, 2), ValveTwins.NONE);
        Check.due("wornAfter(0, 10, 500)", x.wornAfter(0, 10, 500), 10);
        Check.due("wornAfter(0, 11, 500)", x.wornAfter(0, 11, 500), ValveTwins.NONE);
        Check.due("wornAfter(1, 1, 500)", x.wornAfter(1, 1, 500), ValveTwins.NONE);
        Check.due("wornAfter(0, 100000, 500)", x.wornAfter(0, 100000, 500), ValveTwins.NONE);
        x.run(4);
        Check.due("wornAfter(0, 4, 0)", x.wornAfter(0, 4, 0), 0);
        Check.due("wornAfter(0, 5, 500)", x.wornAfter(0, 5, 500), 1);
        for (int valve : WRONG_VALVES) {
            Check.refused("wornAfter(" + valve + ", 0, 0)", x, Check.NO_VALVE, () -> x.wornAfter(valve, 0, 0));
            Check.refused("wornAfter(" + valve + ", -1, -1)", x, Check.NO_VALVE, () -> x.wornAfter(valve, -1, -1));
        }
        int[][] wrong = {{-1, 0}, {100001, 0}, {0, -1}, {0, 501}, {Integer.MIN_VALUE, 5}, {5, Integer.MAX_VALUE}};
        for (int[] row : wrong) {
            String call = "wornAfter(1, " + row[0] + ", " + row[1] + ")";
            Check.refused(call, x, Check.BAD_VALUE, () -> x.wornAfter(1, row[0], row[1]));
        }
    }

    private static void promise21() {
        ValveTwins x = new ValveTwins();
        Check.due("missedWithin(500) of none", x.missedWithin(500), 0);
        x.setValve(0, 0, 100);
        x.setSignal(500);
        Check.due("missedWithin(1)", x.missedWithin(1), 90);
        Check.due("missedWithin(3)", x.missedWithin(3), 240);
        Check.due("missedWithin(500)", x.missedWithin(500), 450);
        x.run(2);
        Check.due("missed so far", x.pair(9), 170);
        Check.due("missedWithin(1) behind these", x.missedWithin(1), 70);
        for (int ticks : WRONG_TICKS) {
            Check.refused("missedWithin(" + ticks + ")", x, Check.BAD_VALUE, () -> x.missedWithin(ticks));
        }
    }

    private static void changeNothing() {
        ValveTwins x = new ValveTwins();
        x.setValve(0, 0, 3);
        x.tune(2, 70);
        x.tune(0, 1);
        x.run(120);
        Check.write(x, "run 5;");
        String before = Check.snapshot(x);
        x.idealFlow(700);
        x.signalFor(70);
        x.flatSignals();
        x.firstFall();
        x.moveFor(0, 900);
        x.restAfter(500);
        x.wornAfter(0, 100000, 500);
        x.missedWithin(500);
        Check.count(Check.snapshot(x).equals(before), "a what-if question changed the state");
    }
}
