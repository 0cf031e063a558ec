import java.math.BigInteger;
import java.util.ArrayList;
import java.util.List;

/** Promises 22 to 26: the command text, undo and the digest. */
public final class CommandsTest {
    private static final int[] FAR = {Integer.MIN_VALUE, Integer.MAX_VALUE};

    public static void main(String[] args) {
        typeValue();
        typeAppends();
        typeReturns();
        typeOutOfRange();
        typeFull();
        clearEmpties();
        clearReturns();
        clearLetsTypeAgain();
        runNoFault();
        runFault();
        runStays();
        runUndoable();
        undoRestores();
        undoReturns();
        undoEmpty();
        undoOfTexts();
        digestOfNew();
        digestOrder();
        digestStates();
        digestLength();
        digestLedger();
        digestWraps();
        digestNegativeValues();
        digestChangesNothing();
        Check.finish();
    }

    // ---- promise 22

    private static void typeValue() {
        Check.sentence("Promise 22", "`value`: 0 to 127");
        ValveTwins x = new ValveTwins();
        int length = 0;
        for (int value : new int[] {0, 1, 126, 127}) {
            length++;
            Check.due("type(" + value + ")", x.type(value), length);
        }
    }

    private static void typeAppends() {
        Check.sentence("Promise 22", "Appends a byte to the command text.");
        ValveTwins x = new ValveTwins();
        String text = "signal 5;";
        int[] faults = {0, 0, 0, 0, 0, 6, 7, 8};
        for (int i = 0; i < text.length(); i++) {
            x.type(text.charAt(i));
            int due = i < faults.length ? -10 - faults[i] : 1;
            Check.due("'" + text.substring(0, i + 1) + "'", x.runCommands(), due);
        }
        Check.due("signal", x.pair(0), 5);
        // Each byte of all 128 is kept as it is: none but a space may stand alone.
        for (int value = 0; value <= 127; value++) {
            ValveTwins y = new ValveTwins();
            y.type(value);
            Check.due("the byte " + value, y.runCommands(), value == ' ' ? 0 : -10);
        }
    }

    private static void typeReturns() {
        Check.sentence("Promise 22", "Returns the length of the text.");
        ValveTwins x = new ValveTwins();
        for (int length = 1; length <= 150; length++) {
            Check.due("type(32)", x.type(32), length);
        }
        Check.due("length", x.clearCommands(), 150);
    }

    private static void typeOutOfRange() {
        Check.sentence("Promise 22", "Throws `IllegalArgumentException` if value is out of range");
        for (int value : new int[] {-1, 128, 255, 256, FAR[0], FAR[1]}) {
            Check.refused("type(" + value + ")", Check.BAD_VALUE, States::busy, x -> x.type(value));
            Check.refused("type(" + value + ") in a full text", Check.BAD_VALUE, States::fullText, x -> x.type(value));
        }
    }

    private static void typeFull() {
        Check.sentence("Promise 22", "Throws `IllegalStateException` if the text has 150 bytes");
        Check.refused("type(59) at 150", Check.BAD_STATE, States::fullText, x -> x.type(59));
        Check.refused("type(0) at 150", Check.BAD_STATE, States::fullText, x -> x.type(0));
        Check.refused("type(127) at 150", Check.BAD_STATE, States::fullText, x -> x.type(127));
        ValveTwins x = States.withText(States.FREES.substring(0, 149));
        Check.due("type(59) at 149", x.type(59), 150);
        Check.due("runCommands() at 150", x.runCommands(), 30);
        Check.due("length", x.clearCommands(), 150);
    }

    // ---- promise 23

    private static void clearEmpties() {
        Check.sentence("Promise 23", "Empties the command text.");
        ValveTwins x = States.withText("run 1");
        x.clearCommands();
        Check.due("an empty text", x.runCommands(), 0);
        Check.due("type(59)", x.type(59), 1);
        Check.due("nothing of the old text", x.runCommands(), -10);
        Check.notUndoable("clearCommands()", States::full, y -> y.clearCommands());
        Check.changesNothing("clearCommands() of none", States::fresh, y -> y.clearCommands());
    }

    private static void clearReturns() {
        Check.sentence("Promise 23", "Returns the length that it had.");
        Check.due("of none", new ValveTwins().clearCommands(), 0);
        for (int length : new int[] {1, 2, 149, 150}) {
            ValveTwins x = States.withText(States.FREES.substring(0, length));
            Check.due("of " + length, x.clearCommands(), length);
            Check.due("again", x.clearCommands(), 0);
        }
    }

    private static void clearLetsTypeAgain() {
        Check.sentence("Promise 23", "Empties the command text.");
        ValveTwins x = States.fullText();
        x.clearCommands();
        States.write(x, "signal 12;".repeat(15));
        Check.due("full again", x.runCommands(), 15);
        Check.due("length", x.clearCommands(), 150);
    }

    // ---- promise 24

    private static void runNoFault() {
        Check.sentence("Promise 24", "Returns the number of commands that were carried out; -10 minus the fault if it has "
            + "one.");
        Check.due("none", new ValveTwins().runCommands(), 0);
        Check.due("spaces alone", States.withText("   ").runCommands(), 0);
        Check.due("one", States.withText("free;").runCommands(), 1);
        Check.due("two", States.withText("free;free;").runCommands(), 2);
        Check.due("the most", States.fullText().runCommands(), 30);
        Check.due("one of two", States.withText("free;run 0;").runCommands(), 1);
        Check.due("none of two", States.withText("run 0;free;").runCommands(), 0);
        Check.due("28 of 29", States.withText("free;".repeat(28) + "run 0;").runCommands(), 28);
    }

    private static void runFault() {
        Check.sentence("Promise 24", "-10 minus the fault if it has one.");
        Check.due("the fault 0", States.withText("x").runCommands(), -10);
        Check.due("the fault 1", States.withText(" x").runCommands(), -11);
        Check.due("the fault 4", States.withText("free").runCommands(), -14);
        Check.due("the fault 149", States.withText(" ".repeat(149) + "x").runCommands(), -159);
        Check.due("the fault 150", States.withText(" ".repeat(146) + "free").runCommands(), -160);
    }

    private static void runStays() {
        Check.sentence("Promise 24", "Runs the command text, which stays as it is.");
        ValveTwins x = States.withText(" run 2 ;service 1;");
        for (int round = 1; round <= 3; round++) {
            Check.due("run " + round, x.runCommands(), 2);
            Check.due("time", x.pair(5), 2 * round);
            Check.due("services", x.valve(1, 20), round);
        }
        Check.due("length", x.clearCommands(), 18);
        ValveTwins y = States.withText("run 2;run");
        Check.due("a faulty one", y.runCommands(), -19);
        Check.due("a faulty one again", y.runCommands(), -19);
        y.type(' ');
        y.type('3');
        y.type(';');
        Check.due("mended", y.runCommands(), 2);
        Check.due("time", y.pair(5), 5);
        ValveTwins full = States.fullText();
        Check.due("a full one", full.runCommands(), 30);
        Check.due("a full one again", full.runCommands(), 30);
    }

    private static void runUndoable() {
        Check.sentence("Promise 24", "Undoable, if it has no fault.");
        Check.undoable("a text", States::busy, x -> x.runCommands());
        Check.undoable("an empty text", States::fresh, x -> x.runCommands());
        Check.undoable("a full text", States::fullText, x -> x.runCommands());
        Check.undoable("a text that is not carried out", () -> States.withText("run 0;"), x -> x.runCommands());
        Check.undoable("a text that stops", () -> States.withText("signal 4;run 0;"), x -> x.runCommands());
        for (String text : new String[] {"x", "run 5", "signal 4;signal 5", ";"}) {
            Check.changesNothing("'" + text + "'", () -> States.withText(text), x -> x.runCommands());
        }
    }

    // ---- promise 25

    private static void undoRestores() {
        Check.sentence("Promise 25", "Restores the latest saved state and removes it from the undo stack.");
        ValveTwins x = new ValveTwins();
        x.setSignal(500);
        x.run(2);
        x.putStem(1, 77);
        Check.due("undo()", x.undo(), 2);
        Check.due("position", x.valve(1, 9), 0);
        Check.due("undo()", x.undo(), 1);
        Check.due("time", x.pair(5), 0);
        Check.due("undo()", x.undo(), 0);
        Check.due("signal", x.pair(0), 0);
        Check.due("as new", Check.traces(x).equals(Check.traces(new ValveTwins())) ? 1 : 0, 1);
    }

    private static void undoReturns() {
        Check.sentence("Promise 25", "Returns the number of states that are left on the stack.");
        for (int states = 1; states <= 6; states++) {
            ValveTwins x = new ValveTwins();
            for (int call = 0; call < states; call++) {
                x.service(0);
            }
            for (int left = Math.min(states, 4) - 1; left >= 0; left--) {
                Check.due("undo() of " + states, x.undo(), left);
            }
            Check.due("undo() beyond", Check.undoOf(x), -1);
        }
    }

    private static void undoEmpty() {
        Check.sentence("Promise 25", "Throws `IllegalStateException` if the stack is empty");
        Check.refused("undo() of a new one", Check.BAD_STATE, States::fresh, x -> x.undo());
        Check.refused("undo() of a text", Check.BAD_STATE, () -> States.withText("run 1;"), x -> x.undo());
        Check.refused("undo() of one that is used up", Check.BAD_STATE, () -> {
            ValveTwins x = States.full();
            Check.statesOf(x);
            return x;
        }, x -> x.undo());
    }

    private static void undoOfTexts() {
        Check.sentence("Promise 25", "Restores the latest saved state");
        ValveTwins x = States.withText("run 100;");
        for (int round = 1; round <= 7; round++) {
            x.runCommands();
        }
        int[] days = {12, 12, 10, 8, 6};
        for (int left = 3; left >= 0; left--) {
            Check.due("undo()", x.undo(), left);
            Check.due("time", x.pair(5), 300 + 100 * left);
            Check.due("entries", x.pair(11), days[4 - left]);
        }
    }

    // ---- promise 26

    /** The digest by the document's own order, from the answers of the other calls; whole, then cut to a long. */
    private static long digestOf(ValveTwins x, int states, int length) {
        List<Integer> values = new ArrayList<>();
        values.add(states);
        values.add(length);
        for (int what = 0; what <= 11; what++) {
            values.add(x.pair(what));
        }
        for (int valve = 0; valve <= 1; valve++) {
            for (int what = 0; what <= 20; what++) {
                values.add(x.valve(valve, what));
            }
            for (int what = 2; what <= 4; what++) {
                values.add(x.ledgerSum(valve, what));
            }
        }
        for (int entry = 0; entry < x.pair(11); entry++) {
            for (int what = 0; what <= 4; what++) {
                values.add(x.ledger(entry, what));
            }
        }
        values.add(x.flatSignals());
        values.add(x.firstFall());
        BigInteger h = BigInteger.valueOf(43183);
        for (int value : values) {
            h = h.multiply(BigInteger.valueOf(31)).add(BigInteger.valueOf(value));
        }
        return h.longValue();
    }

    private static void digestOfNew() {
        Check.sentence("Promise 26", "Returns a hash of the state. It starts with h = 43183.");
        // Reckoned apart from any program here, from the values at first and from those behind setSignal(1000) and run(1).
        ValveTwins x = new ValveTwins();
        Check.due("digest() of a new one", x.digest(), 3596521343368039583L);
        x.setSignal(1000);
        x.run(1);
        Check.due("digest() of a moved one", x.digest(), -6497976499934066727L);
        Check.due("digest() with a full text", States.withText(" ".repeat(150)).digest(), 3011143254170634933L);
    }

    private static void digestOrder() {
        Check.sentence("Promise 26", "pair() of 0 to 11; for each valve valve() of 0 to 20, ledgerSum() of 2 to 4; for each "
            + "entry of the ledger ledger() of 0 to 4; flatSignals(), firstFall().");
        Check.due("digest() of a new one", new ValveTwins().digest(), digestOf(new ValveTwins(), 0, 0));
        ValveTwins x = States.busy();
        int length = x.clearCommands();
        Check.due("length", length, 66);
        Check.due("digest() of a busy one", x.digest(), digestOf(x, 3, 0));
        ValveTwins fallen = new ValveTwins();
        fallen.setRange(0, 100, 300, true);
        fallen.setRange(1, 900, 1000, false);
        Check.due("digest() of one that falls", fallen.digest(), digestOf(fallen, 2, 0));
    }

    private static void digestStates() {
        Check.sentence("Promise 26", "the number of states on the undo stack, the length of the command text");
        ValveTwins x = new ValveTwins();
        for (int states = 0; states <= 6; states++) {
            Check.due("digest() of " + states, x.digest(), digestOf(new ValveTwins(), Math.min(states, 4), 0));
            x.setSignal(0);
        }
        for (int left = 3; left >= 0; left--) {
            x.undo();
            Check.due("digest() of " + left + " left", x.digest(), digestOf(new ValveTwins(), left, 0));
        }
    }

    private static void digestLength() {
        Check.sentence("Promise 26", "the length of the command text");
        ValveTwins x = new ValveTwins();
        for (int length = 1; length <= 150; length++) {
            x.type(length % 100);
            if (length == 1 || length == 31 || length >= 149) {
                Check.due("digest() of the length " + length, x.digest(), digestOf(new ValveTwins(), 0, length));
            }
        }
        x.clearCommands();
        Check.due("digest() behind clearCommands()", x.digest(), new ValveTwins().digest());
    }

    private static void digestLedger() {
        Check.sentence("Promise 26", "for each entry of the ledger ledger() of 0 to 4");
        int[] ticks = {1, 99, 1, 400, 99, 1, 100};
        ValveTwins x = new ValveTwins();
        x.setRange(0, 0, 1000, true);
        int states = 1;
        for (int tick : ticks) {
            x.run(tick);
            states = Math.min(states + 1, 4);
            ValveTwins y = new ValveTwins();
            y.setRange(0, 0, 1000, true);
            for (int left = x.pair(5); left > 0; left -= 500) {
                y.run(Math.min(left, 500));
            }
            Check.due("digest() at " + x.pair(5), x.digest(), digestOf(y, states, 0));
        }
    }

    private static void digestWraps() {
        Check.sentence("Promise 26", "For each of the following values v, in this order, h becomes 31 * h + v (long "
            + "arithmetic, overflow wraps).");
        int negative = 0;
        for (int signal = 0; signal < 16; signal++) {
            ValveTwins x = new ValveTwins();
            x.setSignal(signal);
            Check.due("digest() for the signal " + signal, x.digest(), digestOf(x, 1, 0));
            negative += x.digest() < 0 ? 1 : 0;
        }
        Check.count(negative > 0 && negative < 16, "the digests wrap to one sign alone: " + negative + " are negative");
    }

    private static void digestNegativeValues() {
        Check.sentence("Promise 26", "h becomes 31 * h + v");
        ValveTwins x = new ValveTwins();
        x.tune(1, -10000);
        Check.due("a negative gain", x.digest(), digestOf(x, 1, 0));
        x.setSignal(500);
        x.run(1);
        x.setSignal(0);
        x.run(1);
        Check.due("a negative way", x.valve(0, 10), -1);
        Check.due("digest()", x.digest(), digestOf(x, 4, 0));
        ValveTwins last = States.atLast();
        Check.due("the last time", last.digest(), digestOf(last, 4, 0));
    }

    private static void digestChangesNothing() {
        Check.sentence("Promise 26", "Returns a hash of the state.");
        Check.changesNothing("digest()", States::full, x -> x.digest());
        ValveTwins x = States.busy();
        long before = x.digest();
        Check.due("digest() again", x.digest(), before);
        x.type(32);
        Check.count(x.digest() != before, "digest() does not see a byte");
    }
}
