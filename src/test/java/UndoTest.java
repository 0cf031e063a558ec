import java.util.ArrayList;
import java.util.List;
import java.util.function.Consumer;
import java.util.function.Supplier;

/** Terms: undo and exceptions, for all calls alike; and the last of the calls that an object is used for. */
public final class UndoTest {
    private static final int NONE = ValveTwins.NONE;

    /** A call that is marked undoable, with a name to complain by. */
    private record Call(String name, Consumer<ValveTwins> body) {
    }

    public static void main(String[] args) {
        savesTheWholeState();
        savesAlsoWithoutAChange();
        savesOnlyAtANormalEnd();
        savesInEveryUndoableCall();
        savesInNoOtherCall();
        savesNotTheText();
        stateFromBefore();
        latestFour();
        dropsOlderOnes();
        dropsAgainAndAgain();
        emptyStack();
        restoresEachValue();
        throwingChangesNothing();
        listedFirst();
        noneOnlyWithoutAnException();
        last512thCall();
        Check.finish();
    }

    private static List<Call> undoableCalls() {
        List<Call> all = new ArrayList<>();
        all.add(new Call("setRange", x -> x.setRange(1, 4, 5, true)));
        all.add(new Call("setValve", x -> x.setValve(1, 3, 44)));
        all.add(new Call("setSignal", x -> x.setSignal(44)));
        all.add(new Call("tune", x -> x.tune(2, 44)));
        all.add(new Call("service", x -> x.service(0)));
        all.add(new Call("putStem", x -> x.putStem(1, 44)));
        all.add(new Call("run", x -> x.run(44)));
        all.add(new Call("runCommands", x -> x.runCommands()));
        return all;
    }

    private static List<Call> otherCalls() {
        List<Call> all = new ArrayList<>();
        all.add(new Call("valve", x -> x.valve(1, 20)));
        all.add(new Call("pair", x -> x.pair(11)));
        all.add(new Call("ledger", x -> x.ledger(11, 4)));
        all.add(new Call("ledgerSum", x -> x.ledgerSum(1, 4)));
        all.add(new Call("meanFlow", x -> x.meanFlow()));
        all.add(new Call("idealFlow", x -> x.idealFlow(1000)));
        all.add(new Call("signalFor", x -> x.signalFor(2000)));
        all.add(new Call("flatSignals", x -> x.flatSignals()));
        all.add(new Call("firstFall", x -> x.firstFall()));
        all.add(new Call("moveFor", x -> x.moveFor(0, 1000)));
        all.add(new Call("restAfter", x -> x.restAfter(500)));
        all.add(new Call("wornAfter", x -> x.wornAfter(1, 100000, 500)));
        all.add(new Call("missedWithin", x -> x.missedWithin(500)));
        all.add(new Call("digest", x -> x.digest()));
        return all;
    }

    // ---- undo

    private static void savesTheWholeState() {
        Check.sentence("Terms", "saves the whole state but the command text on an undo stack");
        for (Call call : undoableCalls()) {
            Check.undoable(call.name, States::busy, call.body);
        }
        // One call that changes nearly all of it at once.
        Check.undoable("a text", () -> {
            ValveTwins x = States.busy();
            States.write(x, "fall 0 1 2;rise 1 3 4;set 0 0 1;set 0 1 2;set 0 2 3;set 0 3 4;set 0 4 1;set 1 0 5;"
                + "set 1 1 6;set 1 2 7;set 1 3 8;set 1 4 2;hold 5;service 1;");
            return x;
        }, x -> x.runCommands());
        Check.undoable("another text", () -> {
            ValveTwins x = States.busy();
            States.write(x, "service 0;service 0;service 1;signal 1;run 400;signal 999;run 400;service 1;free;run 7;");
            return x;
        }, x -> x.runCommands());
    }

    private static void savesAlsoWithoutAChange() {
        Check.sentence("Terms", "when it ends normally, also if it changes nothing.");
        Check.undoable("setRange as it is", States::fresh, x -> x.setRange(0, 0, 500, false));
        Check.undoable("setValve as it is", States::fresh, x -> x.setValve(0, 0, 1000));
        Check.undoable("setSignal as it is", States::fresh, x -> x.setSignal(0));
        Check.undoable("tune as it is", States::fresh, x -> x.tune(1, 100));
        Check.undoable("putStem as it is", States::fresh, x -> x.putStem(0, 0));
        Check.undoable("no command", States::fresh, x -> x.runCommands());
        Check.undoable("a command that is not carried out", () -> States.withText("run 0;"), x -> x.runCommands());
    }

    private static void savesOnlyAtANormalEnd() {
        Check.sentence("Terms", "when it ends normally");
        Supplier<ValveTwins> full = States::full;
        Check.refused("setRange", Check.BAD_VALUE, full, x -> x.setRange(0, 5, 5, true));
        Check.refused("setValve", Check.BAD_VALUE, full, x -> x.setValve(0, 0, 0));
        Check.refused("setSignal", Check.BAD_VALUE, full, x -> x.setSignal(1001));
        Check.refused("tune", Check.BAD_VALUE, full, x -> x.tune(3, 0));
        Check.refused("service", Check.NO_VALVE, full, x -> x.service(2));
        Check.refused("putStem", Check.BAD_VALUE, full, x -> x.putStem(0, 1001));
        Check.refused("run", Check.BAD_VALUE, full, x -> x.run(0));
        Check.refused("run at the last time", Check.BAD_STATE, States::atLast, x -> x.run(1));
        Check.refused("setRange of a new one", Check.BAD_VALUE, States::fresh, x -> x.setRange(0, 5, 5, true));
    }

    private static void savesInEveryUndoableCall() {
        Check.sentence("Terms", "Every method that is marked \"undoable\"");
        for (Call call : undoableCalls()) {
            ValveTwins x = new ValveTwins();
            call.body.accept(x);
            Check.due(call.name + ": states", Check.statesOf(x), 1);
        }
    }

    private static void savesInNoOtherCall() {
        Check.sentence("Terms", "Every method that is marked \"undoable\" saves");
        for (Call call : otherCalls()) {
            Check.changesNothing(call.name, States::busy, call.body);
            Check.changesNothing(call.name, States::full, call.body);
            Check.changesNothing(call.name, States::fresh, call.body);
        }
        Check.notUndoable("type", States::busy, x -> x.type(';'));
        Check.notUndoable("clearCommands", States::busy, x -> x.clearCommands());
        Check.notUndoable("a faulty text", () -> States.withText("fre"), x -> x.runCommands());
    }

    private static void savesNotTheText() {
        Check.sentence("Terms", "the whole state but the command text");
        ValveTwins x = new ValveTwins();
        x.setSignal(5);
        States.write(x, "run 2;");
        Check.undoLeaves("with a text", x, 0);
        Check.due("the text is still there", x.runCommands(), 1);
        Check.due("time", x.pair(5), 2);
        x.clearCommands();
        Check.undoLeaves("with the text cleared", x, 0);
        Check.due("the text does not come back", x.clearCommands(), 0);
        ValveTwins y = new ValveTwins();
        States.write(y, "free;");
        y.setSignal(3);
        States.write(y, "run 1;run 1;");
        Check.undoLeaves("with another text", y, 0);
        Check.due("the other text stays", y.runCommands(), 2);
        Check.due("length", y.clearCommands(), 12);
    }

    private static void stateFromBefore() {
        Check.sentence("Terms", "The saved state is the one from before the call.");
        ValveTwins x = new ValveTwins();
        x.setSignal(3);
        x.setSignal(8);
        x.setSignal(2);
        int[] signals = {8, 3, 0};
        for (int left = 2; left >= 0; left--) {
            Check.undoLeaves("undo", x, left);
            Check.due("signal", x.pair(0), signals[2 - left]);
        }
        x.setSignal(11);
        x.setSignal(12);
        Check.undoLeaves("undo", x, 1);
        x.setSignal(13);
        Check.undoLeaves("undo of the later one", x, 1);
        Check.due("signal", x.pair(0), 11);
        Check.undoLeaves("undo of the earlier one", x, 0);
        Check.due("signal", x.pair(0), 0);
    }

    /** The signals 1 to this many, each set by a call. */
    private static ValveTwins signals(int count) {
        ValveTwins x = new ValveTwins();
        for (int signal = 1; signal <= count; signal++) {
            x.setSignal(signal);
        }
        return x;
    }

    private static void latestFour() {
        Check.sentence("Terms", "The stack keeps the latest 4 saved states");
        for (int count = 0; count <= 4; count++) {
            ValveTwins x = signals(count);
            for (int left = count - 1; left >= 0; left--) {
                Check.undoLeaves("of " + count, x, left);
                Check.due("signal", x.pair(0), left);
            }
            Check.due("no more of " + count, Check.undoOf(x), -1);
            Check.due("signal", x.pair(0), 0);
        }
    }

    private static void dropsOlderOnes() {
        Check.sentence("Terms", "and drops older ones.");
        for (int count = 5; count <= 9; count++) {
            ValveTwins x = signals(count);
            for (int left = 3; left >= 0; left--) {
                Check.undoLeaves("of " + count, x, left);
                Check.due("signal", x.pair(0), count - 4 + left);
            }
            Check.refused("no more of " + count, Check.BAD_STATE, undone(count), y -> y.undo());
        }
    }

    private static Supplier<ValveTwins> undone(int count) {
        return () -> {
            ValveTwins x = signals(count);
            Check.statesOf(x);
            return x;
        };
    }

    private static void dropsAgainAndAgain() {
        Check.sentence("Terms", "The stack keeps the latest 4 saved states and drops older ones.");
        ValveTwins x = signals(6);
        Check.undoLeaves("to the signal 5", x, 3);
        Check.undoLeaves("to the signal 4", x, 2);
        x.setSignal(70);
        x.setSignal(80);
        x.setSignal(90);
        int[] signals = {80, 70, 4, 3};
        for (int left = 3; left >= 0; left--) {
            Check.undoLeaves("behind the drop", x, left);
            Check.due("signal", x.pair(0), signals[3 - left]);
        }
        Check.due("no more", Check.undoOf(x), -1);
        for (int round = 0; round < 20; round++) {
            x.setSignal(500 + round);
            x.setSignal(600 + round);
            x.setSignal(700 + round);
            Check.due("undo 1 of 3", x.undo() > 1 ? 1 : 0, 1);
            Check.due("signal", x.pair(0), 600 + round);
        }
        Check.due("states", Check.statesOf(x), 3);
    }

    private static void emptyStack() {
        Check.sentence("Terms", "The stack keeps the latest 4 saved states");
        Check.refused("undo() of none", Check.BAD_STATE, States::fresh, x -> x.undo());
        Check.refused("undo() of none, with a text", Check.BAD_STATE, States::fullText, x -> x.undo());
        ValveTwins x = new ValveTwins();
        x.setSignal(9);
        Check.undoLeaves("the only one", x, 0);
        Check.due("none behind it", Check.undoOf(x), -1);
        x.setSignal(8);
        Check.undoLeaves("one more", x, 0);
        Check.due("signal", x.pair(0), 0);
    }

    private static ValveTwins before() {
        ValveTwins x = States.busy();
        States.write(x, "fall 1 1 20;rise 0 3 40;set 0 0 999;set 0 1 1;set 0 2 1;set 0 3 3;set 0 4 1;set 1 0 999;"
            + "set 1 1 1;set 1 2 1;set 1 3 3;run 190;");
        return x;
    }

    /** Number by number, not by the digest: most are others behind the text, and all are back behind undo(). */
    private static void restoresEachValue() {
        Check.sentence("Terms", "saves the whole state but the command text");
        int[] before = Numbers.of(before());
        ValveTwins x = before();
        x.runCommands();
        int[] between = Numbers.of(x);
        ValveTwins y = before();
        y.runCommands();
        y.undo();
        int[] behind = Numbers.of(y);
        int changed = 0;
        for (int i = 0; i < before.length; i++) {
            Check.due("number " + i, behind[i], before[i]);
            changed += between[i] != before[i] ? 1 : 0;
        }
        Check.count(changed >= 70, "the text changed only " + changed + " numbers of " + before.length);
    }

    // ---- exceptions

    private static void throwingChangesNothing() {
        Check.sentence("Terms", "A call that throws an exception changes nothing.");
        List<Supplier<ValveTwins>> starts = List.of(States::fresh, States::busy, States::full, States::fullText);
        for (Supplier<ValveTwins> start : starts) {
            Check.refused("setRange(2, ..)", Check.NO_VALVE, start, x -> x.setRange(2, 7, 8, true));
            Check.refused("setRange(0, ..)", Check.BAD_VALUE, start, x -> x.setRange(0, 8, 7, true));
            Check.refused("setValve(2, ..)", Check.NO_VALVE, start, x -> x.setValve(2, 0, 7));
            Check.refused("setValve(0, ..)", Check.BAD_VALUE, start, x -> x.setValve(0, 0, 1001));
            Check.refused("setSignal", Check.BAD_VALUE, start, x -> x.setSignal(-1));
            Check.refused("tune", Check.BAD_VALUE, start, x -> x.tune(0, 2));
            Check.refused("service", Check.NO_VALVE, start, x -> x.service(-1));
            Check.refused("putStem(2, ..)", Check.NO_VALVE, start, x -> x.putStem(2, 7));
            Check.refused("putStem(0, ..)", Check.BAD_VALUE, start, x -> x.putStem(0, -1));
            Check.refused("run", Check.BAD_VALUE, start, x -> x.run(501));
            Check.refused("valve(2, ..)", Check.NO_VALVE, start, x -> x.valve(2, 0));
            Check.refused("valve(0, ..)", Check.BAD_VALUE, start, x -> x.valve(0, 21));
            Check.refused("pair", Check.BAD_VALUE, start, x -> x.pair(12));
            Check.refused("ledger", Check.BAD_VALUE, start, x -> x.ledger(0, 5));
            Check.refused("ledgerSum(2, ..)", Check.NO_VALVE, start, x -> x.ledgerSum(2, 2));
            Check.refused("ledgerSum(0, ..)", Check.BAD_VALUE, start, x -> x.ledgerSum(0, 1));
            Check.refused("idealFlow", Check.BAD_VALUE, start, x -> x.idealFlow(1001));
            Check.refused("signalFor", Check.BAD_VALUE, start, x -> x.signalFor(2001));
            Check.refused("moveFor(2, ..)", Check.NO_VALVE, start, x -> x.moveFor(2, 0));
            Check.refused("moveFor(0, ..)", Check.BAD_VALUE, start, x -> x.moveFor(0, 1001));
            Check.refused("restAfter", Check.BAD_VALUE, start, x -> x.restAfter(0));
            Check.refused("wornAfter(2, ..)", Check.NO_VALVE, start, x -> x.wornAfter(2, 0, 0));
            Check.refused("wornAfter(0, ..)", Check.BAD_VALUE, start, x -> x.wornAfter(0, 0, 501));
            Check.refused("missedWithin", Check.BAD_VALUE, start, x -> x.missedWithin(0));
            Check.refused("type", Check.BAD_VALUE, start, x -> x.type(128));
        }
        Check.refused("type in a full text", Check.BAD_STATE, States::fullText, x -> x.type(59));
        Check.refused("undo of none", Check.BAD_STATE, States::fullText, x -> x.undo());
        Check.refused("run at the last time", Check.BAD_STATE, States::atLast, x -> x.run(500));
    }

    private static void listedFirst() {
        Check.sentence("Terms", "If several exceptions of a method apply, the one that is listed first is thrown.");
        for (int valve : Check.WRONG_VALVES) {
            Check.refused("setRange, all wrong", Check.NO_VALVE, States::busy, x -> x.setRange(valve, -1, 1001, true));
            Check.refused("setRange, b wrong", Check.NO_VALVE, States::busy, x -> x.setRange(valve, 5, 5, true));
            Check.refused("setValve, what wrong", Check.NO_VALVE, States::busy, x -> x.setValve(valve, 5, 1));
            Check.refused("setValve, value wrong", Check.NO_VALVE, States::busy, x -> x.setValve(valve, 0, 0));
            Check.refused("putStem", Check.NO_VALVE, States::busy, x -> x.putStem(valve, 1001));
            Check.refused("valve", Check.NO_VALVE, States::busy, x -> x.valve(valve, 21));
            Check.refused("ledgerSum", Check.NO_VALVE, States::busy, x -> x.ledgerSum(valve, 1));
            Check.refused("moveFor", Check.NO_VALVE, States::busy, x -> x.moveFor(valve, -1));
            Check.refused("wornAfter, wear wrong", Check.NO_VALVE, States::busy, x -> x.wornAfter(valve, -1, 0));
            Check.refused("wornAfter, most wrong", Check.NO_VALVE, States::busy, x -> x.wornAfter(valve, 0, 501));
        }
        Check.refused("run(501) at 200000", Check.BAD_VALUE, States::atLast, x -> x.run(501));
        Check.refused("run(0) at 200000", Check.BAD_VALUE, States::atLast, x -> x.run(0));
        Check.refused("run(far) at 200000", Check.BAD_VALUE, States::atLast, x -> x.run(Integer.MAX_VALUE));
        Check.refused("type(128) at 150", Check.BAD_VALUE, States::fullText, x -> x.type(128));
        Check.refused("type(-1) at 150", Check.BAD_VALUE, States::fullText, x -> x.type(-1));
    }

    private static void noneOnlyWithoutAnException() {
        Check.sentence("Terms", "NONE is returned only if no exception applies.");
        ValveTwins x = new ValveTwins();
        Check.due("ledger(12, 0)", x.ledger(12, 0), NONE);
        Check.refused("ledger(12, 5)", Check.BAD_VALUE, States::fresh, y -> y.ledger(12, 5));
        Check.refused("ledger(12, -1)", Check.BAD_VALUE, States::fresh, y -> y.ledger(12, -1));
        Check.refused("ledger(-1, 0)", Check.BAD_VALUE, States::fresh, y -> y.ledger(-1, 0));
        Check.due("signalFor(2000)", x.signalFor(2000), NONE);
        Check.refused("signalFor(2001)", Check.BAD_VALUE, States::fresh, y -> y.signalFor(2001));
        x.setValve(0, 0, 1);
        x.setSignal(500);
        Check.due("restAfter(500)", x.restAfter(500), NONE);
        Check.refused("restAfter(501)", Check.BAD_VALUE, States::fresh, y -> y.restAfter(501));
        Check.due("wornAfter(0, 100000, 500)", x.wornAfter(0, 100000, 500), NONE);
        Check.refused("wornAfter(0, 100001, 500)", Check.BAD_VALUE, States::fresh, y -> y.wornAfter(0, 100001, 500));
        Check.refused("wornAfter(0, 100000, 501)", Check.BAD_VALUE, States::fresh, y -> y.wornAfter(0, 100000, 501));
        Check.due("firstFall()", x.firstFall(), NONE);
    }

    // ---- the last call

    private static void last512thCall() {
        Check.sentence("What it is", "An object is used for at most 512 calls after it has been made");
        ValveTwins x = new ValveTwins();
        for (int call = 1; call <= 400; call++) {
            x.run(500);
        }
        for (int call = 401; call <= 508; call++) {
            x.setSignal(call);
        }
        Check.due("call 509", x.undo(), 3);
        Check.due("call 510", x.pair(5), 200000);
        Check.due("call 511", x.valve(0, 8), 1000);
        Check.due("call 512", x.setSignal(0), 507);
        ValveTwins texts = States.withText("run 500;".repeat(18));
        // 145 calls have cleared and typed the text; 22 runs of it end at 198000, and the next stops behind 4 commands.
        for (int call = 146; call <= 510; call++) {
            int due = call < 146 + 22 ? 18 : call == 146 + 22 ? 4 : 0;
            Check.due("call " + call, texts.runCommands(), due);
        }
        Check.due("call 511", texts.pair(5), 200000);
        Check.due("call 512", texts.undo(), 3);
    }
}
