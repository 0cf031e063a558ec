/** Terms: what a command text is, where its fault lies, and what its commands do. */
public final class TextTest {
    private static final String[] WORDS = {"rise", "fall", "set", "signal", "hold", "free", "service", "run"};
    private static final int[] NUMBERS = {3, 3, 3, 1, 1, 0, 1, 1};

    public static void main(String[] args) {
        atMost150Bytes();
        emptyAndSpaces();
        spacesAllowed();
        spacesNeeded();
        spacesAlone();
        digits();
        fifthDigit();
        semicolons();
        numbersOfEachWord();
        faultAtAByte();
        endsTooSoon();
        cutAnywhere();
        unknownWord();
        unknownWordAtTheEnd();
        knownWordBeforeAnotherByte();
        faultBehindSoundCommands();
        eachByteAtEachPlace();
        outOfRangeIsNoFault();
        wordsDoWhatTheirCallsDo();
        holdDoesBoth();
        stopsAtAnException();
        stopsAtTheLastTime();
        faultDoesNothing();
        savesOneState();
        Check.finish();
    }

    private static String spaces(int count) {
        return " ".repeat(count);
    }

    private static void sound(String text, int commands) {
        ValveTwins x = States.withText(text);
        Check.due("'" + text + "'", x.runCommands(), commands);
        Check.due("'" + text + "' stays", x.clearCommands(), text.length());
    }

    /** The text has a fault at this index, and running it changes nothing, as promise 24 asks. */
    private static void fault(String text, int index) {
        Check.due("'" + text + "'", States.withText(text).runCommands(), -10 - index);
        Check.changesNothing("'" + text + "'", () -> States.withText(text), x -> x.runCommands());
    }

    private static void atMost150Bytes() {
        Check.sentence("Terms", "The command text has at most 150 bytes.");
        sound(States.FREES, 30);
        sound(spaces(150), 0);
        sound("run 1;" + spaces(144), 1);
        sound(spaces(144) + "run 1;", 1);
        fault(spaces(149) + ";", 149);
        fault(spaces(149) + "r", 149);
        fault(spaces(145) + "run 1", 150);
        fault(spaces(146) + "free", 150);
        fault(spaces(147) + "fre", 147);
        fault("a".repeat(150), 0);
        Check.refused("a byte more", Check.BAD_STATE, States::fullText, x -> x.type(' '));
    }

    private static void emptyAndSpaces() {
        Check.sentence("Terms", "(perhaps none: a text that is empty, or has spaces alone, has no fault)");
        sound("", 0);
        sound(" ", 0);
        sound("  ", 0);
        sound(spaces(149), 0);
        fault("\t", 0);
        fault(" \t", 1);
        fault("\0", 0);
        fault("\n", 0);
        Check.undoable("an empty text", States::fresh, x -> x.runCommands());
    }

    private static void spacesAllowed() {
        Check.sentence("Terms", "Spaces may also stand in front of a command, in front of a semicolon, and at the end.");
        sound("free;", 1);
        sound(" free;", 1);
        sound("free ;", 1);
        sound("free; ", 1);
        sound("   free   ;   free  ;   ", 2);
        sound("run 1 ;", 1);
        sound(" run   1   ; ", 1);
        sound("rise   0    0     1      ;", 1);
        sound("free;free;", 2);
        sound("run 1;free;run 1;", 3);
        fault("fr ee;", 0);
        fault("free 1;", 5);
        fault("run 1 1;", 6);
        fault("run 0 1;", 6);
    }

    private static void spacesNeeded() {
        Check.sentence("Terms", "with at least one space (byte 32) in front");
        sound("run 1;", 1);
        sound("run  1;", 1);
        fault("run1;", 3);
        fault("run\t1;", 3);
        fault("run\0001;", 3);
        fault("run \t1;", 4);
        fault("set 0\t0 1;", 5);
        fault("set 0;0 1;", 5);
        fault("rise 0 0001000;", 11);
    }

    private static void spacesAlone() {
        Check.sentence("Terms", "a semicolon. Spaces may also stand in front of a command");
        fault(";", 0);
        fault(" ;", 1);
        fault("free;;", 5);
        fault("free; ;", 6);
        fault("free;\n", 5);
        fault("free ;  ;", 8);
    }

    private static void digits() {
        Check.sentence("Terms", "each of one to four digits (zeros in front are allowed; a fifth digit cannot stand)");
        int[] ticks = {1, 9, 10, 99, 100, 500};
        for (int tick : ticks) {
            String plain = Integer.toString(tick);
            for (String text = plain; text.length() <= 4; text = "0" + text) {
                ValveTwins x = States.withText("run " + text + ";");
                Check.due("run " + text, x.runCommands(), 1);
                Check.due("time behind run " + text, x.pair(5), tick);
            }
        }
        sound("signal 0000;", 1);
        sound("signal 9999;", 0);
        sound("set 0000 0000 0001;", 1);
        sound("set 0001 0003 0999;", 1);
        fault("run ;", 4);
        fault("run -1;", 4);
        fault("run +1;", 4);
        fault("run 1.;", 5);
        fault("run 1a;", 5);
        fault("run 1/;", 5);
        fault("run 1:;", 5);
        fault("run /;", 4);
        fault("run :;", 4);
    }

    private static void fifthDigit() {
        Check.sentence("Terms", "a fifth digit cannot stand");
        fault("run 00001;", 8);
        fault("run 12345;", 8);
        fault("run 123456", 8);
        fault("run 12345", 8);
        fault("rise 00000 1 2;", 9);
        fault("rise 0 00000 2;", 11);
        fault("rise 0 1 00002;", 13);
        fault("run    10000;", 11);
        fault("run 1234", 8);
        fault("run 1234x", 8);
        fault("run 1234 5", 9);
    }

    private static void semicolons() {
        Check.sentence("Terms", "followed by its numbers");
        fault("rise;", 4);
        fault("rise ;", 5);
        fault("rise 0;", 6);
        fault("rise 0 1;", 8);
        fault("rise 0 1 ;", 9);
        fault("set 0 1;", 7);
        fault("signal;", 6);
        fault("signal ;", 7);
        fault("free 0;", 5);
        fault("free0;", 4);
        fault("set 0 1 2 3;", 10);
        fault("set 0 1 2free;", 9);
        fault("free free;", 5);
        fault("free,", 4);
        fault("free:", 4);
        fault("free<", 4);
    }

    private static String command(int word, int numbers) {
        StringBuilder text = new StringBuilder(WORDS[word]);
        for (int number = 0; number < numbers; number++) {
            text.append(" 1");
        }
        return text.toString();
    }

    private static void numbersOfEachWord() {
        Check.sentence("Terms", "The words are: rise v a b (setRange(v, a, b, false)), fall v a b "
            + "(setRange(v, a, b, true)), set v k n (setValve(v, k, n)), signal u (setSignal(u)), hold w");
        for (int word = 0; word < WORDS.length; word++) {
            for (int numbers = 0; numbers <= 4; numbers++) {
                String text = command(word, numbers);
                if (numbers == NUMBERS[word]) {
                    // The range from 1 to 1 is none; the other commands are carried out.
                    sound(text + ";", word < 2 ? 0 : 1);
                } else if (numbers < NUMBERS[word]) {
                    fault(text + ";", text.length());
                } else {
                    fault(text + ";", command(word, NUMBERS[word]).length() + 1);
                }
            }
        }
    }

    private static void faultAtAByte() {
        Check.sentence("Terms", "The fault of a command text is the index of the first byte that cannot stand at its place");
        fault("7", 0);
        fault(" 7", 1);
        fault("!run 1;", 0);
        fault("run 1!;", 5);
        fault("run 1 !;", 6);
        fault("run 1;!", 6);
        fault("run 1; !", 7);
        fault("run 1!!!;?", 5);
        fault("signal 5 5; service ", 9);
        // What stands behind a fault is not read on, though it is sound but for a later fault.
        fault("run free;x", 4);
        fault("free run 1;x", 5);
        fault("run 1 run 1;x", 6);
        fault("set 0 free;free", 6);
        fault("runs 1;free;x", 0);
        fault("run 1\177;", 5);
        fault("free`;", 4);
        fault("free{;", 4);
        fault("`", 0);
        fault("{", 0);
        fault("Z", 0);
    }

    private static void endsTooSoon() {
        Check.sentence("Terms", "or the length of the text if it ends too soon.");
        fault("free", 4);
        fault("free ", 5);
        fault("free  ", 6);
        fault("run", 3);
        fault("run ", 4);
        fault("run 1", 5);
        fault("run 1 ", 6);
        fault("run 1;run", 9);
        fault("run 1; run 2", 12);
        fault("rise 0 1", 8);
        fault("rise 0 1 ", 9);
        fault("rise 0 1 2", 10);
    }

    /** A sound text that is cut: behind a word that is cut the word is at fault, else the text ends too soon. */
    private static void cutAnywhere() {
        Check.sentence("Terms", "the length of the text if it ends too soon. A word that is not one of these is at "
            + "fault with its first byte");
        for (int word = 0; word < WORDS.length; word++) {
            String whole = " " + command(word, NUMBERS[word]) + " ;";
            int end = 1 + WORDS[word].length();
            for (int length = 0; length < whole.length(); length++) {
                String text = whole.substring(0, length);
                if (length > 1) {
                    fault(text, length < end ? 1 : length);
                } else {
                    sound(text, 0);
                }
            }
        }
    }

    private static void unknownWord() {
        Check.sentence("Terms", "A word that is not one of these is at fault with its first byte, found when the word is "
            + "complete: when a byte that is no letter");
        fault("ris;", 0);
        fault("riset 0 1 2;", 0);
        fault("rises 0 1 2;", 0);
        fault("xrise 0 1 2;", 0);
        fault("esir 0 1 2;", 0);
        fault("se 0 1 2;", 0);
        fault("sets 0 1 2;", 0);
        fault("free;frees;", 5);
        fault("free; frees ;", 6);
        fault("  foo 1;", 2);
        fault("runrun 1;", 0);
        fault("ru n 1;", 0);
        fault("a;", 0);
        fault("z;", 0);
        fault("x!", 0);
        fault("x1;", 0);
        fault("Run 1;", 0);
        fault("rUn 1;", 0);
        fault("ruN 1;", 0);
        fault("fre`;", 0);
        fault("fre{;", 0);
    }

    private static void unknownWordAtTheEnd() {
        Check.sentence("Terms", "found when the word is complete: when a byte that is no letter, or the end of the text, "
            + "follows it.");
        for (String word : WORDS) {
            for (int length = 1; length < word.length(); length++) {
                fault(word.substring(0, length), 0);
                fault("free; " + word.substring(0, length), 6);
            }
            fault(word, word.length());
            fault(word + "x", 0);
            fault("free;" + word, 5 + word.length());
        }
    }

    private static void knownWordBeforeAnotherByte() {
        Check.sentence("Terms", "the index of the first byte that cannot stand at its place");
        for (String word : WORDS) {
            for (char other : new char[] {'!', '0', '9', 'A', 'Z', '`', '{', '\0', '\t', '\177', ':', '/'}) {
                fault(word + other, word.length());
            }
        }
        fault("free;", "signal", 6);
    }

    private static void fault(String before, String word, int length) {
        fault(before + word, before.length() + length);
        fault(before + word + ";", before.length() + length);
        fault(before + word + "  ;", before.length() + length + 2);
    }

    private static void faultBehindSoundCommands() {
        Check.sentence("Terms", "To run a command text means: if it has a fault, nothing is done");
        ValveTwins x = States.withText("signal 9;run 5;service 0;fre;");
        Check.due("the last of four", x.runCommands(), -10 - 25);
        Check.pairIs("nothing is done", x, 0, 0, 100, 0, 1000, 0, 0, 0, 0, 0, 0, 0);
        Check.due("no service", x.valve(0, 20), 0);
        fault("free;".repeat(29) + "free", 149);
        fault("free;".repeat(29) + "freee", 145);
        fault("free;".repeat(29) + "fre;;", 145);
    }

    /** The model finds a fault by trying each prefix, the program by reading once; all 128 bytes at each place. */
    private static void eachByteAtEachPlace() {
        Check.sentence("Terms", "the index of the first byte that cannot stand at its place");
        for (String text : new String[] {"set 0 1 22;", " hold 0007 ; free;", "run 1", "fall"}) {
            for (int place = 0; place <= text.length(); place++) {
                for (int value = 0; value <= 127; value++) {
                    String end = text.substring(place);
                    sameAsModel(text.substring(0, place) + (char) value + end);
                    sameAsModel(text.substring(0, place) + (char) value + (end.isEmpty() ? "" : end.substring(1)));
                }
            }
        }
    }

    private static void sameAsModel(String text) {
        Model model = new Model();
        for (char value : text.toCharArray()) {
            model.answer(20, new int[] {value});
        }
        Check.due("'" + text + "'", States.withText(text).runCommands(), model.answer(22, new int[4]));
    }

    private static void outOfRangeIsNoFault() {
        Check.sentence("Terms", "(That a number is out of its range is no fault.)");
        String[] wrong = {"rise 2 0 1;", "rise 9999 0 1;", "rise 0 5 5;", "rise 0 6 5;", "rise 0 0 1001;",
            "rise 1 1000 1001;", "fall 2 0 1;", "fall 1 9 9;", "fall 1 1000 1000;", "set 2 0 1;", "set 0 5 1;",
            "set 0 9999 1;", "set 0 0 0;", "set 0 0 1001;", "set 1 1 301;", "set 1 2 301;", "set 1 3 1001;",
            "set 1 4 3;", "signal 1001;", "signal 9999;", "hold 2001;", "hold 9999;", "service 2;", "service 9999;",
            "run 0;", "run 0000;", "run 501;", "run 9999;"};
        for (String command : wrong) {
            Check.due(command, States.withText(command).runCommands(), 0);
            Check.undoable(command, () -> States.withText(command), x -> x.runCommands());
        }
    }

    /** The text and the call must leave two objects alike; the text is cleared, and the call saves one state too. */
    private static void same(String text, java.util.function.Consumer<ValveTwins> call) {
        ValveTwins x = States.busy();
        Check.due("'" + text + "'", States.runText(x, text), 1);
        x.clearCommands();
        ValveTwins y = States.busy();
        y.clearCommands();
        call.accept(y);
        Check.count(Check.traces(x).equals(Check.traces(y)), "'" + text + "' is not like its call");
    }

    private static void wordsDoWhatTheirCallsDo() {
        Check.sentence("Terms", "rise v a b (setRange(v, a, b, false)), fall v a b (setRange(v, a, b, true)), set v k n "
            + "(setValve(v, k, n)), signal u (setSignal(u))");
        same("rise 0 0 1;", x -> x.setRange(0, 0, 1, false));
        same("rise 1 999 1000;", x -> x.setRange(1, 999, 1000, false));
        same("fall 0 200 0999;", x -> x.setRange(0, 200, 999, true));
        same("fall 1 0 1000;", x -> x.setRange(1, 0, 1000, true));
        int[] least = {1, 0, 0, 0, 0};
        int[] most = {1000, 300, 300, 1000, 2};
        for (int what = 0; what <= 4; what++) {
            int w = what;
            same("set 0 " + w + " " + least[w] + ";", x -> x.setValve(0, w, least[w]));
            same("set 1 " + w + " " + most[w] + ";", x -> x.setValve(1, w, most[w]));
        }
        same("signal 0;", x -> x.setSignal(0));
        same("signal 1000;", x -> x.setSignal(1000));
        Check.sentence("Terms", "free (tune(0, 0)), service v (service(v)), run n (run(n)).");
        same("free;", x -> x.tune(0, 0));
        same("service 0;", x -> x.service(0));
        same("service 1;", x -> x.service(1));
        same("run 1;", x -> x.run(1));
        same("run 500;", x -> x.run(500));
    }

    private static void holdDoesBoth() {
        Check.sentence("Terms", "hold w (sets the wanted flow w and turns the controller on, like tune(2, w) and then "
            + "tune(0, 1))");
        for (int wanted : new int[] {0, 1, 1999, 2000}) {
            ValveTwins x = States.withText("hold " + wanted + ";");
            Check.due("hold", x.runCommands(), 1);
            Check.pairIs("hold " + wanted, x, 0, 1, 100, wanted, 1000, 0);
            Check.due("hold again", x.runCommands(), 1);
            Check.pairIs("hold " + wanted + " again", x, 0, 1, 100, wanted, 1000, 0);
            Check.due("free", States.runText(x, "free;"), 1);
            Check.pairIs("free", x, 0, 0, 100, wanted, 1000, 0);
        }
        ValveTwins x = States.withText("free;hold 2001;");
        Check.due("too much", x.runCommands(), 1);
        Check.pairIs("neither of both", x, 0, 0, 100, 0, 1000, 0);
    }

    private static void stopsAtAnException() {
        Check.sentence("Terms", "otherwise the commands are carried out in their order, until one of them would throw an "
            + "exception, which is not thrown; those before it stay done, and they alone count.");
        ValveTwins x = States.withText("signal 9;run 2;signal 8;signal 1001;signal 7;run 3;");
        Check.due("three of six", x.runCommands(), 3);
        Check.due("signal", x.pair(0), 8);
        Check.due("time", x.pair(5), 2);
        ValveTwins first = States.withText("run 0;run 1;");
        Check.due("none of two", first.runCommands(), 0);
        Check.due("time", first.pair(5), 0);
        ValveTwins last = States.withText("run 1;run 1;run 501;");
        Check.due("all but the last", last.runCommands(), 2);
        Check.due("time", last.pair(5), 2);
        ValveTwins order = States.withText("signal 5;signal 6;set 0 0 7;set 0 0 8;rise 0 1 2;fall 0 3 4;");
        Check.due("in their order", order.runCommands(), 6);
        Check.due("signal", order.pair(0), 6);
        Check.valveIs("in their order", order, 0, 8, 10, 20, 100, 0, 3, 4, 1);
    }

    private static void stopsAtTheLastTime() {
        Check.sentence("Terms", "until one of them would throw an exception");
        ValveTwins x = States.atTime(199990);
        Check.due("up to 200000", States.runText(x, "run 4;run 6;run 1;free;"), 2);
        Check.due("time", x.pair(5), 200000);
        Check.due("none beyond", States.runText(x, "run 1;free;"), 0);
        Check.due("but without a tick", States.runText(x, "free;signal 3;run 1;"), 2);
        ValveTwins y = States.atTime(199990);
        Check.due("11 are too many", States.runText(y, "free;run 11;run 1;"), 1);
        Check.due("time", y.pair(5), 199990);
    }

    private static void faultDoesNothing() {
        Check.sentence("Terms", "if it has a fault, nothing is done");
        for (String text : new String[] {"run 1;run", "signal 7;signal 8", "service 0;x", "run 5;;"}) {
            Check.changesNothing("'" + text + "'", () -> {
                ValveTwins x = States.full();
                States.write(x, text);
                return x;
            }, x -> x.runCommands());
        }
        ValveTwins x = States.withText("signal 7");
        Check.due("too short", x.runCommands(), -18);
        x.type(';');
        Check.due("its end typed", x.runCommands(), 1);
        Check.due("signal", x.pair(0), 7);
    }

    private static void savesOneState() {
        Check.sentence("Terms", "A run saves one state, the one from before it; its commands save none.");
        ValveTwins x = new ValveTwins();
        x.setSignal(4);
        Check.due("five commands", States.runText(x, "signal 50;run 5;hold 3;service 0;signal 60;"), 5);
        Check.undoLeaves("one state for all", x, 1);
        Check.pairIs("undone", x, 4, 0, 100, 0, 1000, 0, 0, 0, 0, 0, 0, 0);
        Check.undoLeaves("the first", x, 0);
        Check.undoable("a long text", States::busy, y -> y.runCommands());
        ValveTwins full = States.full();
        Check.due("in a full stack", full.runCommands(), 6);
        Check.due("states", Check.statesOf(full), 4);
    }
}
