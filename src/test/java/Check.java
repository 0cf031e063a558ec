import java.util.ArrayList;
import java.util.List;
import java.util.function.Consumer;
import java.util.function.Supplier;

/** What the tests share: the sentence that is tested, right and wrong answers, refused calls. */
final class Check {
    static final Class<IndexOutOfBoundsException> NO_VALVE = IndexOutOfBoundsException.class;
    static final Class<IllegalArgumentException> BAD_VALUE = IllegalArgumentException.class;
    static final Class<IllegalStateException> BAD_STATE = IllegalStateException.class;
    static final int[] WRONG_VALVES = {-1, 2, Integer.MIN_VALUE, Integer.MAX_VALUE};

    private static final int MOST_SECONDS = 300;

    private static String sentence = "";
    private static int passed;
    private static int failed;

    static {
        Thread watch = new Thread(Check::endInTime);
        watch.setDaemon(true);
        watch.start();
    }

    private Check() {
    }

    /** A call that does not end must fail the test, and not hold it up. */
    private static void endInTime() {
        try {
            Thread.sleep(1000L * MOST_SECONDS);
        } catch (InterruptedException e) {
            return;
        }
        System.out.println(sentence + "a call does not end");
        Runtime.getRuntime().halt(1);
    }

    /** Names the promise, or another section of the document, and the sentence that the next checks are about. */
    static void sentence(String section, String words) {
        sentence = section + ", \"" + words + "\": ";
        count(Document.says(section, words), "this is not in the document");
    }

    static void due(String call, long got, long want) {
        count(got == want, call + " answered " + got + ", due is " + want);
    }

    static void dueDouble(String call, double got, double want) {
        count(got == want, call + " answered " + got + ", due is " + want);
    }

    static void count(boolean right, String complaint) {
        if (right) {
            passed++;
        } else {
            failed++;
            System.out.println(sentence + complaint);
        }
    }

    /** The call must throw exactly this kind, and leave all as it is in an object that never made it. */
    static void refused(String call, Class<? extends RuntimeException> kind, Supplier<ValveTwins> start,
            Consumer<ValveTwins> body) {
        ValveTwins x = start.get();
        Class<?> thrown = null;
        try {
            body.accept(x);
        } catch (RuntimeException e) {
            thrown = e.getClass();
        }
        count(thrown == kind, call + " threw " + thrown + ", due is " + kind);
        count(traces(x).equals(traces(start.get())), call + " was refused, but changed something");
    }

    static void changesNothing(String call, Supplier<ValveTwins> start, Consumer<ValveTwins> body) {
        ValveTwins x = start.get();
        body.accept(x);
        count(traces(x).equals(traces(start.get())), call + " changed something");
    }

    /** The call must save one state, the one from before it. The stack must have room at the start. */
    static void undoable(String call, Supplier<ValveTwins> start, Consumer<ValveTwins> body) {
        ValveTwins x = start.get();
        int states = statesOf(start.get());
        body.accept(x);
        due(call + ", then undo()", undoOf(x), states);
        count(traces(x).equals(traces(start.get())), call + ", then undo() is not as it was before");
    }

    /** The call must save no state, although it does something. */
    static void notUndoable(String call, Supplier<ValveTwins> start, Consumer<ValveTwins> body) {
        ValveTwins x = start.get();
        body.accept(x);
        due(call + ": saved states", statesOf(x), statesOf(start.get()));
    }

    /**
     * All that an object holds, in some 30 calls: what can be seen, each saved state, and what its text does.
     * The digest stands for the values; the digest itself is tested against them.
     */
    static List<Number> traces(ValveTwins x) {
        List<Number> all = new ArrayList<>();
        look(x, all);
        int left = undoOf(x);
        for (int undone = 0; undone < 10 && left >= 0; undone++) {
            all.add(left);
            look(x, all);
            left = undoOf(x);
        }
        all.add(x.runCommands());
        look(x, all);
        all.add(x.clearCommands());
        return all;
    }

    private static void look(ValveTwins x, List<Number> all) {
        all.add(x.digest());
        all.add(x.meanFlow());
        all.add(x.missedWithin(3));
    }

    /** How many states are saved; the object is used up by this. */
    static int statesOf(ValveTwins x) {
        int states = 0;
        while (states < 100 && undoOf(x) >= 0) {
            states++;
        }
        return states;
    }

    /** What undo() answers, or -1 where it throws. */
    static int undoOf(ValveTwins x) {
        try {
            return x.undo();
        } catch (IllegalStateException e) {
            return -1;
        }
    }

    /** The call must change numbers at these places alone; each of these it must change, as the test is set up. */
    static void changesOnly(String call, Supplier<ValveTwins> start, Consumer<ValveTwins> body, int... places) {
        int[] before = Numbers.of(start.get());
        ValveTwins x = start.get();
        body.accept(x);
        int[] after = Numbers.of(x);
        boolean[] allowed = new boolean[before.length];
        for (int place : places) {
            allowed[place] = true;
        }
        for (int place = 0; place < before.length; place++) {
            boolean changed = after[place] != before[place];
            count(changed == allowed[place], call + ": the number " + place + " went from " + before[place] + " to "
                + after[place]);
        }
    }

    static void pairIs(String where, ValveTwins x, int... wanted) {
        for (int what = 0; what < wanted.length; what++) {
            due(where + ": pair(" + what + ")", x.pair(what), wanted[what]);
        }
    }

    static void valveIs(String where, ValveTwins x, int valve, int... wanted) {
        for (int what = 0; what < wanted.length; what++) {
            due(where + ": valve(" + valve + ", " + what + ")", x.valve(valve, what), wanted[what]);
        }
    }

    static void entryIs(String where, ValveTwins x, int entry, int... wanted) {
        for (int what = 0; what < wanted.length; what++) {
            due(where + ": ledger(" + entry + ", " + what + ")", x.ledger(entry, what), wanted[what]);
        }
    }

    static void undoLeaves(String where, ValveTwins x, int states) {
        due(where + ": undo()", undoOf(x), states);
    }

    static void finish() {
        System.out.println(passed + " passed, " + failed + " failed");
        System.exit(failed == 0 && passed > 0 ? 0 : 1);
    }
}
