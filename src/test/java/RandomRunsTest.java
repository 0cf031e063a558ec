/** Long runs of mixed calls, each answered by the program and by the model; the runs are the same each time. */
public final class RandomRunsTest {
    private static final String[] NAMES = {"setRange", "setValve", "setSignal", "tune", "service", "putStem", "run",
        "valve", "pair", "ledger", "ledgerSum", "meanFlow", "idealFlow", "signalFor", "flatSignals", "firstFall",
        "moveFor", "restAfter", "wornAfter", "missedWithin", "type", "clearCommands", "runCommands", "undo", "digest"};
    private static final String[] PIECES = {"rise", "fall", "set", "signal", "hold", "free", "service", "run", " ", " ",
        " ", " ", "  ", ";", ";", ";", "0", "1", "2", "7", "00", "500", "1000", "0999", "12345", "x", "ru", "\0", "A"};
    private static final int[] ODD = {-1, Integer.MIN_VALUE, Integer.MAX_VALUE, 1001, 2001, 21, -1000000};
    private static final int CALLS = 512;

    private long seed;

    private RandomRunsTest(long seed) {
        this.seed = seed;
    }

    public static void main(String[] args) {
        int runs = args.length > 0 ? Integer.parseInt(args[0]) : 400;
        int wrong = 0;
        for (int run = 1; run <= runs && wrong < 10; run++) {
            RandomRunsTest test = new RandomRunsTest(run);
            boolean right = run % 4 == 0 ? test.playTexts(run) : test.playCalls(run);
            Check.count(right, "run " + run + " went wrong");
            wrong += right ? 0 : 1;
        }
        Check.finish();
    }

    private int below(int bound) {
        seed = seed * 6364136223846793005L + 1442695040888963407L;
        return (int) Math.floorMod(seed >>> 33, (long) bound);
    }

    /** Mostly a number of the range, now and then one of its ends or beyond. */
    private int number(int least, int most) {
        int kind = below(60);
        if (kind == 0) {
            return ODD[below(ODD.length)];
        }
        if (kind == 1) {
            return least - 1;
        }
        if (kind == 2) {
            return most + 1;
        }
        if (kind < 6) {
            return least;
        }
        if (kind < 9) {
            return most;
        }
        return least + below(most - least + 1);
    }

    private boolean playCalls(int run) {
        ValveTwins program = new ValveTwins();
        Model model = new Model();
        boolean small = below(2) == 0;
        for (int i = 0; i < CALLS; i++) {
            int call = i % 16 == 15 ? 24 : below(3) == 0 ? below(8) : below(NAMES.length);
            if (!same(run, i, program, model, call, arguments(call, small))) {
                return false;
            }
        }
        return true;
    }

    /** Texts that are typed whole, run, cleared and undone. */
    private boolean playTexts(int run) {
        ValveTwins program = new ValveTwins();
        Model model = new Model();
        int calls = 0;
        while (true) {
            String text = below(3) == 0 ? mess() : commands();
            int[] after = {22, below(4) == 0 ? 23 : 22, 24, 21};
            if (calls + text.length() + after.length > CALLS) {
                return true;
            }
            for (int at = 0; at < text.length(); at++) {
                if (!same(run, calls++, program, model, 20, new int[] {text.charAt(at)})) {
                    return false;
                }
            }
            for (int call : after) {
                if (!same(run, calls++, program, model, call, new int[4])) {
                    return false;
                }
            }
        }
    }

    private String mess() {
        StringBuilder text = new StringBuilder();
        int pieces = below(14);
        for (int i = 0; i < pieces; i++) {
            text.append(PIECES[below(PIECES.length)]);
        }
        return text.toString();
    }

    private String commands() {
        StringBuilder text = new StringBuilder();
        int count = 1 + below(7);
        for (int i = 0; i < count; i++) {
            text.append(" ".repeat(below(3) / 2)).append(command()).append(" ".repeat(below(3) / 2)).append(';');
        }
        if (below(4) == 0) {
            text.deleteCharAt(below(text.length()));
        }
        return text.length() > 150 ? text.substring(0, 150) : text.toString();
    }

    private String command() {
        int valve = below(20) == 0 ? 2 : below(2);
        int a = below(1001);
        switch (below(9)) {
            case 0: return "rise " + valve + " " + a / 2 + " " + a;
            case 1: return "fall " + valve + " " + a / 3 + "  " + a;
            case 2: return "set " + valve + " " + below(5) + " " + below(3) * (below(2) == 0 ? 1 : below(160));
            case 3: return "signal " + below(1010);
            case 4: return "hold " + below(210);
            case 5: return below(3) == 0 ? "free" : "hold 0" + below(200);
            case 6: return "service " + valve;
            default: return "run " + below(510);
        }
    }

    private int[] arguments(int call, boolean small) {
        int valve = number(0, 1);
        switch (call) {
            case 0: int a = number(0, 999); return new int[] {valve, a, number(a < 999 && a >= 0 ? a + 1 : 0, 1000), below(2)};
            case 1: int what = number(0, 4); return new int[] {valve, what, value(what, small)};
            case 2: case 12: return new int[] {number(0, 1000)};
            case 3: int which = number(0, 3); return new int[] {which, tuning(which, small)};
            case 4: return new int[] {valve};
            case 5: case 16: return new int[] {valve, number(0, 1000)};
            case 6: case 17: case 19: return new int[] {small ? number(1, 12) : number(1, 500)};
            case 7: return new int[] {valve, number(0, 20)};
            case 8: return new int[] {number(0, 11)};
            case 9: return new int[] {number(0, 12), number(0, 4)};
            case 10: return new int[] {valve, number(2, 4)};
            case 13: return new int[] {small ? number(0, 200) : number(0, 2000)};
            case 18: return new int[] {valve, small ? number(0, 100) : number(0, 100000), number(0, 500)};
            case 20: return new int[] {number(0, 127)};
            default: return new int[4];
        }
    }

    private int value(int what, boolean small) {
        int[] most = {1000, 300, 300, 1000, 2};
        int least = what == 0 ? 1 : 0;
        int greatest = what >= 0 && what <= 4 ? most[what] : 5;
        return number(least, small && greatest > 2 ? 40 : greatest);
    }

    private int tuning(int what, boolean small) {
        int[][] ranges = {{0, 1}, {-10000, 10000}, {0, 2000}, {1, 1000}};
        int[][] smaller = {{0, 1}, {-500, 3000}, {0, 150}, {1, 200}};
        if (what < 0 || what > 3) {
            return 1;
        }
        int[] range = small ? smaller[what] : ranges[what];
        return number(range[0], range[1]);
    }

    private static boolean same(int run, int place, ValveTwins program, Model model, int call, int[] n) {
        String got;
        try {
            got = String.valueOf(answer(program, call, n));
        } catch (RuntimeException e) {
            got = e.getClass().getSimpleName();
        }
        String want;
        try {
            want = String.valueOf(model.answer(call, n));
        } catch (RuntimeException e) {
            want = e.getClass().getSimpleName();
        }
        if (!got.equals(want)) {
            System.out.println("run " + run + ", call " + place + ": " + NAMES[call] + java.util.Arrays.toString(n)
                + " answered " + got + ", the model " + want);
        }
        return got.equals(want);
    }

    private static long answer(ValveTwins x, int call, int[] n) {
        switch (call) {
            case 0: return x.setRange(n[0], n[1], n[2], n[3] == 1);
            case 1: return x.setValve(n[0], n[1], n[2]);
            case 2: return x.setSignal(n[0]);
            case 3: return x.tune(n[0], n[1]);
            case 4: return x.service(n[0]);
            case 5: return x.putStem(n[0], n[1]);
            case 6: return x.run(n[0]);
            case 7: return x.valve(n[0], n[1]);
            case 8: return x.pair(n[0]);
            case 9: return x.ledger(n[0], n[1]);
            case 10: return x.ledgerSum(n[0], n[1]);
            case 11: return Double.doubleToLongBits(x.meanFlow());
            case 12: return x.idealFlow(n[0]);
            case 13: return x.signalFor(n[0]);
            case 14: return x.flatSignals();
            case 15: return x.firstFall();
            case 16: return x.moveFor(n[0], n[1]);
            case 17: return x.restAfter(n[0]);
            case 18: return x.wornAfter(n[0], n[1], n[2]);
            case 19: return x.missedWithin(n[0]);
            case 20: return x.type(n[0]);
            case 21: return x.clearCommands();
            case 22: return x.runCommands();
            case 23: return x.undo();
            default: return x.digest();
        }
    }
}
