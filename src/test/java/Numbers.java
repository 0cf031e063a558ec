/** All numbers that can be seen of an object, in 120 calls, and where each of them stands. */
final class Numbers {
    private static final int PAIR = 12;
    private static final int VALVE = 21;
    private static final int SUMS = 3;
    private static final int ENTRIES = 12;
    private static final int COLUMNS = 5;

    private Numbers() {
    }

    static int pair(int what) {
        return what;
    }

    static int valve(int valve, int what) {
        return PAIR + valve * (VALVE + SUMS) + what;
    }

    static int[] of(ValveTwins x) {
        int[] all = new int[PAIR + 2 * (VALVE + SUMS) + ENTRIES * COLUMNS];
        for (int what = 0; what < PAIR; what++) {
            all[pair(what)] = x.pair(what);
        }
        for (int valve = 0; valve <= 1; valve++) {
            for (int what = 0; what < VALVE; what++) {
                all[valve(valve, what)] = x.valve(valve, what);
            }
            for (int what = 0; what < SUMS; what++) {
                all[valve(valve, VALVE + what)] = x.ledgerSum(valve, 2 + what);
            }
        }
        int count = valve(2, 0);
        for (int entry = 0; entry < ENTRIES; entry++) {
            for (int what = 0; what < COLUMNS; what++) {
                all[count++] = x.ledger(entry, what);
            }
        }
        return all;
    }
}
