/** Objects to begin a test with; none has been used for more than some 300 of the 512 calls that it may be used for. */
final class States {
    static final int MOST_TIME = 200000;
    static final String FREES = "free;".repeat(30);

    private States() {
    }

    static ValveTwins fresh() {
        return new ValveTwins();
    }

    static void write(ValveTwins x, String text) {
        x.clearCommands();
        for (int i = 0; i < text.length(); i++) {
            x.type(text.charAt(i));
        }
    }

    static int runText(ValveTwins x, String text) {
        write(x, text);
        return x.runCommands();
    }

    static ValveTwins withText(String text) {
        ValveTwins x = new ValveTwins();
        write(x, text);
        return x;
    }

    /** The demand of the valve 0 is the signal; the valve 1 stays at 0 below the signal 1000. */
    static ValveTwins plain() {
        ValveTwins x = new ValveTwins();
        x.setRange(0, 0, 1000, false);
        x.setRange(1, 999, 1000, false);
        return x;
    }

    /**
     * Little is as at first, the ledger is full, three states are saved, and there is a text that changes much.
     * No undo() makes it: one that restored wrongly would make two such objects alike.
     */
    static ValveTwins busy() {
        ValveTwins x = new ValveTwins();
        x.tune(1, 2000);
        x.tune(3, 437);
        runText(x, "fall 0 100 700;rise 1 300 900;set 0 0 90;set 0 1 2;set 0 2 3;set 0 3 400;set 0 4 2;set 1 3 700;"
            + "set 1 4 1;hold 350;run 500;service 0;service 1;run 99;");
        write(x, " fall 1 5 600;rise 0 7 650 ;set 0 3 77; hold 9; run 30 ;service 1;");
        return x;
    }

    /** Some way behind the first: the stack is full. */
    static ValveTwins full() {
        ValveTwins x = busy();
        x.putStem(0, 440);
        return x;
    }

    static ValveTwins atTime(int time) {
        ValveTwins x = new ValveTwins();
        write(x, "run 500;".repeat(18));
        for (int left = time / 9000; left > 0; left--) {
            x.runCommands();
        }
        x.clearCommands();
        for (int left = time % 9000; left > 0; left -= 500) {
            x.run(Math.min(left, 500));
        }
        return x;
    }

    static ValveTwins atLast() {
        return atTime(MOST_TIME);
    }

    static ValveTwins fullText() {
        return withText(FREES);
    }
}
