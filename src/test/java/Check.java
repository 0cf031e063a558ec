/** What the tests share: counting right and wrong answers, and ways to reach a state. */
final class Check {
    static final Class<IndexOutOfBoundsException> NO_VALVE = IndexOutOfBoundsException.class;
    static final Class<IllegalArgumentException> BAD_VALUE = IllegalArgumentException.class;
    static final Class<IllegalStateException> BAD_STATE = IllegalStateException.class;

    private static int passed;
    private static int failed;

    private Check() {
    }

    static void due(String call, long got, long want) {
        count(got == want, call + " answered " + got + ", due is " + want);
    }

    static void dueDouble(String call, double got, double want) {
        count(got == want, call + " answered " + got + ", due is " + want);
    }

    static void count(boolean right, String complaint) {
        if (right) {
            passed++;
        } else {
            failed++;
            System.out.println(complaint);
        }
    }

    /** The call must throw exactly this kind, and leave everything that can be seen as it was. */
    static void refused(String call, ValveTwins x, Class<? extends RuntimeException> kind, Runnable body) {
        String before = snapshot(x);
        Class<?> thrown = null;
        try {
            body.run();
        } catch (RuntimeException e) {
            thrown = e.getClass();
        }
        count(thrown == kind, call + " threw " + thrown + ", due is " + kind);
        String after = snapshot(x);
        count(after.equals(before), call + " changed the state from " + before + " to " + after);
    }

    static String snapshot(ValveTwins x) {
        StringBuilder all = new StringBuilder();
        for (int what = 0; what <= 11; what++) {
            all.append(x.pair(what)).append(' ');
        }
        for (int valve = 0; valve <= 1; valve++) {
            for (int what = 0; what <= 20; what++) {
                all.append(x.valve(valve, what)).append(' ');
            }
        }
        for (int entry = 0; entry < x.pair(11); entry++) {
            for (int what = 0; what <= 4; what++) {
                all.append(x.ledger(entry, what)).append(' ');
            }
        }
        return all.append(x.digest()).toString();
    }

    /** The digest as the document spells it, from the answers of the other calls. */
    static long digestOf(ValveTwins x, int states, int length) {
        long h = 43183;
        h = 31 * h + states;
        h = 31 * h + length;
        for (int what = 0; what <= 11; what++) {
            h = 31 * h + x.pair(what);
        }
        for (int valve = 0; valve <= 1; valve++) {
            for (int what = 0; what <= 20; what++) {
                h = 31 * h + x.valve(valve, what);
            }
            for (int what = 2; what <= 4; what++) {
                h = 31 * h + x.ledgerSum(valve, what);
            }
        }
        for (int entry = 0; entry < x.pair(11); entry++) {
            for (int what = 0; what <= 4; what++) {
                h = 31 * h + x.ledger(entry, what);
            }
        }
        h = 31 * h + x.flatSignals();
        return 31 * h + x.firstFall();
    }

    static void write(ValveTwins x, String text) {
        x.clearCommands();
        for (int i = 0; i < text.length(); i++) {
            x.type(text.charAt(i));
        }
    }

    static int runText(ValveTwins x, String text) {
        write(x, text);
        return x.runCommands();
    }

    static void pairIs(String where, ValveTwins x, int... wanted) {
        for (int what = 0; what < wanted.length; what++) {
            due(where + ": pair(" + what + ")", x.pair(what), wanted[what]);
        }
    }

    static void valveIs(String where, ValveTwins x, int valve, int... wanted) {
        for (int what = 0; what < wanted.length; what++) {
            due(where + ": valve(" + valve + ", " + what + ")", x.valve(valve, what), wanted[what]);
        }
    }

    static void entryIs(String where, ValveTwins x, int entry, int... wanted) {
        for (int what = 0; what < wanted.length; what++) {
            due(where + ": ledger(" + entry + ", " + what + ")", x.ledger(entry, what), wanted[what]);
        }
    }

    static void undoLeaves(String where, ValveTwins x, int states) {
        due(where + ": undo()", x.undo(), states);
    }

    static void finish() {
        System.out.println(passed + " passed, " + failed + " failed");
        System.exit(failed == 0 && passed > 0 ? 0 : 1);
    }
}
