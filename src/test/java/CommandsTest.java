/** Promises 22 to 26: the command text, undo and the digest. */
public final class CommandsTest {
    public static void main(String[] args) {
        promise22();
        promise23();
        promise24Faults();
        promise24Mended();
        promise24Sound();
        promise24Words();
        promise24OutOfRange();
        promise24Ticks();
        promise24Undo();
        promise25();
        promise25KeepsTheText();
        promise26();
        Check.finish();
    }

    private static void promise22() {
        ValveTwins x = new ValveTwins();
        Check.due("type(0)", x.type(0), 1);
        Check.due("type(127)", x.type(127), 2);
        for (int value : new int[] {-1, 128, Integer.MIN_VALUE, Integer.MAX_VALUE}) {
            Check.refused("type(" + value + ")", x, Check.BAD_VALUE, () -> x.type(value));
        }
        for (int length = 3; length <= 150; length++) {
            Check.due("type(32)", x.type(32), length);
        }
        Check.refused("type(32) at 150", x, Check.BAD_STATE, () -> x.type(32));
        Check.refused("type(128) at 150", x, Check.BAD_VALUE, () -> x.type(128));
        Check.due("clearCommands() at 150", x.clearCommands(), 150);
        Check.refused("type saves no state", x, Check.BAD_STATE, () -> x.undo());
    }

    private static void promise23() {
        ValveTwins x = new ValveTwins();
        Check.due("clearCommands() of none", x.clearCommands(), 0);
        Check.write(x, "run 1");
        Check.due("clearCommands() of 5", x.clearCommands(), 5);
        Check.due("clearCommands() again", x.clearCommands(), 0);
        Check.due("type(59) behind it", x.type(59), 1);
        Check.due("the old text is gone", x.runCommands(), -10);
        x.clearCommands();
        Check.refused("clearCommands saves no state", x, Check.BAD_STATE, () -> x.undo());
    }

    private static void fault(String text, int index) {
        ValveTwins x = new ValveTwins();
        Check.write(x, text);
        String before = Check.snapshot(x);
        Check.due("the fault of '" + text + "'", x.runCommands(), -10 - index);
        Check.count(Check.snapshot(x).equals(before), "'" + text + "' changed the state");
        Check.refused("undo() behind a fault", x, Check.BAD_STATE, () -> x.undo());
    }

    private static void promise24Faults() {
        String[] first = {"riz", "ris", "rises 0 1 2;", "r", "runn 1;", "ru n 1;", "Run 1;", "1;", ";", "rise!", "x!",
            "zzzzzzzzzzzzzzzzzzzz", "rUn 1;", "xise 0 0 1;", "\0", "\t", "runfree;", "fre e;"};
        for (String text : first) {
            // Of "rise!" the word is one of these: the byte behind it is at fault.
            fault(text, text.equals("rise!") ? 4 : 0);
        }
        fault("run", 3);
        fault("run ", 4);
        fault("run 1", 5);
        fault("run 1 ", 6);
        fault("free", 4);
        fault("free ", 5);
        fault("run;", 3);
        fault("run5;", 3);
        fault("run ;", 4);
        fault("run  ;", 5);
        fault("run 12345;", 8);
        fault("run 00001;", 8);
        fault("run 1 2;", 6);
        fault("run 1a;", 5);
        fault("run a;", 4);
        fault("run -1;", 4);
        fault("rise 0 1;", 8);
        fault("rise 0 1 ;", 9);
        fault("rise 0 1 2 3;", 11);
        fault("rise 0 1 2", 10);
        fault("rise 0 12345 2;", 11);
        fault("set 0 1;", 7);
        fault("free 1;", 5);
        fault("free0;", 4);
        fault("free;;", 5);
        fault("free; ;", 6);
        fault("free;fre", 5);
        fault("free; foo;", 6);
        fault("  foo;", 2);
        fault("  \nfree;", 2);
        fault("run 1;;", 6);
        fault("run\t1;", 3);
        fault("run 1\t;", 5);
        fault("run 1/;", 5);
        fault("run 1:;", 5);
        fault("free`;", 4);
        fault("free{;", 4);
        fault("signal 5 ; service ", 19);
        fault("run 1;run 1;run 1;!", 18);
    }

    private static void promise24Mended() {
        ValveTwins x = new ValveTwins();
        Check.due("too short", Check.runText(x, "signal 7"), -18);
        x.type(';');
        Check.due("its end typed", x.runCommands(), 1);
        Check.due("signal", x.pair(0), 7);
        Check.due("the first without a fault, the second with one", Check.runText(x, "signal 8;signal 9"), -27);
        Check.due("nothing is done", x.pair(0), 7);
        Check.due("sound again", Check.runText(x, " "), 0);
        Check.undoLeaves("the sound texts save", x, 1);
    }

    private static void sound(String text, int commands) {
        ValveTwins x = new ValveTwins();
        Check.due("'" + text + "'", Check.runText(x, text), commands);
        Check.due("the text stays", x.clearCommands(), text.length());
        Check.undoLeaves("'" + text + "'", x, 0);
    }

    private static void promise24Sound() {
        sound("", 0);
        sound("   ", 0);
        sound("free;", 1);
        sound("  free  ;  ", 1);
        sound("free;free;", 2);
        sound("free ; free ;", 2);
        sound("run 1;", 1);
        sound("run    0001    ;", 1);
        sound("run 0500;", 1);
        sound("rise   0   0   1;", 1);
        StringBuilder many = new StringBuilder();
        for (int i = 0; i < 30; i++) {
            many.append("free;");
        }
        sound(many.toString(), 30);
    }

    private static void promise24Words() {
        ValveTwins x = new ValveTwins();
        Check.due("rise", Check.runText(x, "rise 1 100 700;"), 1);
        Check.valveIs("rise", x, 1, 1000, 10, 20, 100, 0, 100, 700, 0);
        Check.due("fall", Check.runText(x, "fall 0 200 999;"), 1);
        Check.valveIs("fall", x, 0, 1000, 10, 20, 100, 0, 200, 999, 1);
        Check.due("rise 0", Check.runText(x, "rise 0 0 500;"), 1);
        Check.valveIs("rise 0", x, 0, 1000, 10, 20, 100, 0, 0, 500, 0);
        Check.due("set", Check.runText(x, "set 0 0 7;set 0 1 8;set 0 2 9;set 1 3 55;set 1 4 2;"), 5);
        Check.valveIs("set", x, 0, 7, 8, 9, 100, 0);
        Check.valveIs("set", x, 1, 1000, 10, 20, 55, 2);
        Check.due("signal", Check.runText(x, "signal 0321;"), 1);
        Check.due("signal is set", x.pair(0), 321);
        Check.due("hold", Check.runText(x, "hold 1999;"), 1);
        Check.due("hold turns it on", x.pair(1), 1);
        Check.due("hold sets the flow", x.pair(3), 1999);
        Check.due("free", Check.runText(x, "free;"), 1);
        Check.due("free turns it off", x.pair(1), 0);
        Check.due("free leaves the flow", x.pair(3), 1999);
        Check.due("run", Check.runText(x, "run 3;"), 1);
        Check.due("run lets ticks pass", x.pair(5), 3);
        Check.due("service", Check.runText(x, "service 1;service 1;service 0;"), 3);
        Check.due("services of the valve 0", x.valve(0, 20), 1);
        Check.due("services of the valve 1", x.valve(1, 20), 2);
    }

    private static void promise24OutOfRange() {
        String[] wrong = {"rise 2 0 1;", "rise 0 5 5;", "rise 0 6 5;", "rise 0 0 1001;", "fall 2 0 1;", "fall 1 9 9;",
            "set 2 0 1;", "set 0 5 1;", "set 0 0 0;", "set 0 0 1001;", "set 1 1 301;", "set 1 2 301;", "set 1 3 1001;",
            "set 1 4 3;", "signal 1001;", "hold 2001;", "service 2;", "service 9999;", "run 0;", "run 501;",
            "run 9999;"};
        for (String command : wrong) {
            ValveTwins x = new ValveTwins();
            String text = "signal 9;" + command + "signal 8;";
            Check.due("'" + text + "'", Check.runText(x, text), 1);
            Check.pairIs("'" + text + "'", x, 9, 0, 100, 0, 1000, 0, 0, 1, 0, 0, 0, 0);
            Check.due("'" + text + "' is otherwise as new", x.digest(), plainDigest(text.length()));
            Check.undoLeaves("'" + text + "'", x, 0);
            Check.due("signal after undo", x.pair(0), 0);
        }
    }

    /** The digest of a new object with the signal 9, one saved state and a text of this length. */
    private static long plainDigest(int length) {
        ValveTwins x = new ValveTwins();
        x.setSignal(9);
        return Check.digestOf(x, 1, length);
    }

    private static void promise24Ticks() {
        ValveTwins x = new ValveTwins();
        ValveTwins y = new ValveTwins();
        Check.due("a longer text", Check.runText(x, "fall 0 0 600; rise 1 400 1000; set 0 0 30 ;hold 60;run 250;service 0;run 7;"), 7);
        y.setRange(0, 0, 600, true);
        y.setRange(1, 400, 1000, false);
        y.setValve(0, 0, 30);
        y.tune(2, 60);
        y.tune(0, 1);
        y.run(250);
        y.service(0);
        y.run(7);
        Check.due("digest but for the stack and the text", Check.digestOf(x, 0, 0), Check.digestOf(y, 0, 0));
        Check.due("the text runs once more", x.runCommands(), 7);
        Check.due("time", x.pair(5), 514);
    }

    private static void promise24Undo() {
        ValveTwins x = new ValveTwins();
        x.setSignal(4);
        Check.due("run", Check.runText(x, "signal 50;run 5;signal 60;"), 3);
        Check.undoLeaves("one state for all commands", x, 1);
        Check.pairIs("undone", x, 4, 0, 100, 0, 1000, 0, 0, 0, 0, 0, 0, 0);
        Check.due("an empty text saves too", Check.runText(x, ""), 0);
        Check.undoLeaves("an empty text", x, 1);
        Check.undoLeaves("the first", x, 0);
    }

    private static void promise25() {
        ValveTwins x = new ValveTwins();
        for (int signal = 1; signal <= 6; signal++) {
            x.setSignal(signal);
        }
        for (int left = 3; left >= 0; left--) {
            Check.undoLeaves("undo to " + left, x, left);
            Check.due("signal", x.pair(0), 2 + left);
        }
        Check.refused("undo() of none", x, Check.BAD_STATE, () -> x.undo());
        x.setSignal(9);
        Check.undoLeaves("again", x, 0);
        Check.due("signal at last", x.pair(0), 2);
        x.setSignal(2);
        Check.undoLeaves("a call that changes nothing saves too", x, 0);
        restoreAll();
    }

    private static void restoreAll() {
        ValveTwins x = new ValveTwins();
        x.setValve(0, 0, 9);
        x.tune(2, 90);
        x.tune(0, 1);
        x.run(230);
        String before = Check.snapshot(x);
        long digest = x.digest();
        Check.runText(x, "fall 0 1 2;rise 1 3 4;set 0 0 1;set 0 1 2;set 0 2 3;set 0 3 4;set 0 4 1;set 1 0 5;set 1 1 6;"
            + "set 1 2 7;set 1 3 8;hold 5;");
        Check.runText(x, "set 1 4 2;service 0;service 1;run 500;run 90;signal 3;free;");
        x.clearCommands();
        Check.count(!Check.snapshot(x).equals(before), "the commands changed nothing");
        Check.undoLeaves("restoreAll", x, 3);
        Check.undoLeaves("restoreAll", x, 2);
        // Of the four states that were there, one has been dropped for each text that ran.
        String after = Check.snapshot(x);
        String values = before.substring(0, before.lastIndexOf(' '));
        Check.count(after.startsWith(values), "undo did not restore " + values + " but " + after);
        Check.due("digest", Check.digestOf(x, 4, 0), digest);
    }

    private static void promise25KeepsTheText() {
        ValveTwins x = new ValveTwins();
        x.setSignal(5);
        Check.write(x, "run 2;");
        Check.undoLeaves("with a text", x, 0);
        Check.due("the text is still there", x.runCommands(), 1);
        Check.due("time", x.pair(5), 2);
        Check.due("clearCommands()", x.clearCommands(), 6);
    }

    private static void promise26() {
        ValveTwins x = new ValveTwins();
        Check.due("digest() of a new one", x.digest(), Check.digestOf(x, 0, 0));
        x.setRange(0, 100, 300, true);
        Check.due("digest() with one state", x.digest(), Check.digestOf(x, 1, 0));
        x.type('f');
        Check.due("digest() with one byte", x.digest(), Check.digestOf(x, 1, 1));
        x.tune(1, -77);
        x.tune(2, 33);
        x.tune(0, 1);
        x.run(350);
        x.service(1);
        x.run(450);
        Check.due("digest() with a ledger", x.digest(), Check.digestOf(x, 4, 1));
        long before = x.digest();
        Check.due("digest() again", x.digest(), before);
    }
}
