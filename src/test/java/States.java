/** Objects to begin a test with; none has been used for more than some 200 of the 512 calls that it may be used for. */
final class States {
    static final int MOST_TIME = 200000;
    static final String FREES = "free;".repeat(30);

    private States() {
    }

    static ValveTwins fresh() {
        return new ValveTwins();
    }

    static void write(ValveTwins x, String text) {
        x.clearCommands();
        for (int i = 0; i < text.length(); i++) {
            x.type(text.charAt(i));
        }
    }

    static int runText(ValveTwins x, String text) {
        write(x, text);
        return x.runCommands();
    }

    static ValveTwins withText(String text) {
        ValveTwins x = new ValveTwins();
        write(x, text);
        return x;
    }

    /** The demand of the valve 0 is the signal; the valve 1 stays at 0 below the signal 1000. */
    static ValveTwins plain() {
        ValveTwins x = new ValveTwins();
        x.setRange(0, 0, 1000, false);
        x.setRange(1, 999, 1000, false);
        return x;
    }

    /** Nothing is as at first, the ledger is full, three states are saved, and there is a text that changes much. */
    static ValveTwins busy() {
        ValveTwins x = new ValveTwins();
        x.setRange(0, 100, 700, true);
        x.setRange(1, 300, 900, false);
        int[][] settings = {{90, 2, 3, 400, 2}, {70, 4, 5, 700, 1}};
        for (int valve = 0; valve <= 1; valve++) {
            for (int what = 0; what <= 4; what++) {
                x.setValve(valve, what, settings[valve][what]);
            }
        }
        for (int swing = 0; swing < 10; swing++) {
            x.setSignal(swing % 2 == 0 ? 800 : 90);
            x.run(60);
        }
        x.service(0);
        x.service(1);
        x.service(1);
        x.setSignal(800);
        x.run(30);
        x.setSignal(350);
        x.run(8);
        x.tune(1, 900);
        x.tune(2, 650);
        x.tune(3, 37);
        write(x, " fall 1 5 600;rise 0 7 650 ;set 0 3 77; hold 9; run 30 ;service 1;");
        x.tune(0, 1);
        x.run(4);
        x.putStem(1, 3);
        x.undo();
        return x;
    }

    /** Some way behind the first: the stack is full. */
    static ValveTwins full() {
        ValveTwins x = busy();
        x.putStem(0, 440);
        return x;
    }

    static ValveTwins atTime(int time) {
        ValveTwins x = new ValveTwins();
        write(x, "run 500;".repeat(18));
        while (x.pair(5) + 9000 <= time) {
            x.runCommands();
        }
        x.clearCommands();
        while (x.pair(5) + 500 <= time) {
            x.run(500);
        }
        if (x.pair(5) < time) {
            x.run(time - x.pair(5));
        }
        return x;
    }

    static ValveTwins atLast() {
        return atTime(MOST_TIME);
    }

    static ValveTwins fullText() {
        return withText(FREES);
    }
}
