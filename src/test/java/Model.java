import java.util.ArrayList;
import java.util.List;
import java.util.regex.Matcher;
import java.util.regex.Pattern;

/**
 * The document once more, written for plainness and with the whole Java library, by other means than the program:
 * states are copied anew, commands are calls that may throw, and a fault is found by trying each prefix.
 */
final class Model {
    private static final String[] WORDS = {"rise", "fall", "set", "signal", "hold", "free", "service", "run"};
    private static final int[] NUMBERS = {3, 3, 3, 1, 1, 0, 1, 1};
    private static final int[][] VALVE_RANGES = {{1, 1000}, {0, 300}, {0, 300}, {0, 1000}, {0, 2}};
    private static final int[][] TUNE_RANGES = {{0, 1}, {-10000, 10000}, {0, 2000}, {1, 1000}};

    private static final class Stem {
        int[] settings = {1000, 10, 20, 100, 0};
        int a;
        int b;
        boolean falling;
        int s;
        int lastWay;
        boolean running;
        long travel;
        long reversals;
        long allTravel;
        long allReversals;
        int services;
    }

    private static final class State {
        Stem[] stems = {new Stem(), new Stem()};
        int u;
        int[] tuned = {0, 100, 0, 1000};
        long time;
        long volume;
        long missed;
        long leaked;
        List<long[]> ledger = new ArrayList<>();
    }

    private State state = new State();
    private final List<State> saved = new ArrayList<>();
    private String text = "";

    Model() {
        state.stems[0].b = 500;
        state.stems[1].a = 500;
        state.stems[1].b = 1000;
    }

    private static State copyOf(State from) {
        State to = new State();
        for (int v = 0; v < 2; v++) {
            Stem old = from.stems[v];
            Stem copy = to.stems[v];
            copy.settings = old.settings.clone();
            copy.a = old.a;
            copy.b = old.b;
            copy.falling = old.falling;
            copy.s = old.s;
            copy.lastWay = old.lastWay;
            copy.running = old.running;
            copy.travel = old.travel;
            copy.reversals = old.reversals;
            copy.allTravel = old.allTravel;
            copy.allReversals = old.allReversals;
            copy.services = old.services;
        }
        to.u = from.u;
        to.tuned = from.tuned.clone();
        to.time = from.time;
        to.volume = from.volume;
        to.missed = from.missed;
        to.leaked = from.leaked;
        for (long[] entry : from.ledger) {
            to.ledger.add(entry.clone());
        }
        return to;
    }

    private static long clamp(long value, long least, long most) {
        return value < least ? least : value > most ? most : value;
    }

    private static long demand(Stem stem, long u) {
        long share = clamp(Math.floorDiv(1000 * (u - stem.a), (long) (stem.b - stem.a)), 0, 1000);
        return stem.falling ? 1000 - share : share;
    }

    private static long wear(Stem stem) {
        return Math.floorDiv(stem.travel, 100L) + 3 * stem.reversals;
    }

    private static long threshold(Stem stem, int way) {
        if (stem.running && stem.lastWay == way) {
            return 0;
        }
        long result = stem.settings[1] + Math.floorDiv(wear(stem), 50L);
        if (stem.lastWay != 0 && stem.lastWay != way) {
            result += stem.settings[2];
        }
        return result;
    }

    private static long flowAt(Stem stem, long s) {
        long opening;
        if (stem.settings[4] == 0) {
            opening = s;
        } else if (stem.settings[4] == 1) {
            opening = Math.floorDiv(s * s, 1000L);
        } else {
            opening = 1000 - Math.floorDiv((1000 - s) * (1000 - s), 1000L);
        }
        return Math.floorDiv(stem.settings[3] * opening, 1000L);
    }

    private static long flow(Stem stem) {
        if (stem.s == 0) {
            return Math.min(stem.settings[3], Math.floorDiv(wear(stem), 20L));
        }
        return flowAt(stem, stem.s);
    }

    private static long flow(State state) {
        return flow(state.stems[0]) + flow(state.stems[1]);
    }

    private static long ideal(State state, long u) {
        long sum = 0;
        for (Stem stem : state.stems) {
            long d = demand(stem, u);
            sum += d == 0 ? 0 : flowAt(stem, d);
        }
        return sum;
    }

    private static long moveOf(Stem stem, long u) {
        long d = demand(stem, u);
        if (d == stem.s) {
            return 0;
        }
        long distance = Math.abs(d - stem.s);
        int way = d > stem.s ? 1 : -1;
        if (distance <= threshold(stem, way)) {
            return 0;
        }
        return way * Math.min(distance, stem.settings[0]);
    }

    private static boolean tick(State x) {
        if (x.tuned[0] == 1) {
            long change = Math.floorDiv(x.tuned[1] * (x.tuned[2] - flow(x)), 1000L);
            x.u = (int) clamp(x.u + clamp(change, -x.tuned[3], x.tuned[3]), 0, 1000);
        }
        long[] moves = new long[2];
        long[] turns = new long[2];
        for (int v = 0; v < 2; v++) {
            Stem stem = x.stems[v];
            moves[v] = moveOf(stem, x.u);
            stem.running = moves[v] != 0;
            if (moves[v] != 0) {
                int way = Long.signum(moves[v]);
                turns[v] = stem.lastWay * way == -1 ? 1 : 0;
                stem.lastWay = way;
                stem.s += (int) moves[v];
                stem.travel += Math.abs(moves[v]);
                stem.allTravel += Math.abs(moves[v]);
                stem.reversals += turns[v];
                stem.allReversals += turns[v];
            }
        }
        x.volume += flow(x);
        x.missed += Math.abs(flow(x) - ideal(x, x.u));
        for (int v = 0; v < 2; v++) {
            long leak = x.stems[v].s == 0 ? flow(x.stems[v]) : 0;
            x.leaked += leak;
            long[] entry = entryOf(x, v, x.time / 100);
            entry[2] += Math.abs(moves[v]);
            entry[3] += turns[v];
            entry[4] += leak;
        }
        x.time++;
        return moves[0] != 0 || moves[1] != 0;
    }

    private static long[] entryOf(State x, int valve, long day) {
        for (long[] entry : x.ledger) {
            if (entry[0] == valve && entry[1] == day) {
                return entry;
            }
        }
        long[] made = {valve, day, 0, 0, 0};
        x.ledger.add(made);
        if (x.ledger.size() > 12) {
            x.ledger.remove(0);
        }
        return made;
    }

    private void save() {
        saved.add(copyOf(state));
        if (saved.size() > 4) {
            saved.remove(0);
        }
    }

    private static void needValve(int valve) {
        if (valve != 0 && valve != 1) {
            throw new IndexOutOfBoundsException();
        }
    }

    private static void need(int value, int least, int most) {
        if (value < least || value > most) {
            throw new IllegalArgumentException();
        }
    }

    private long setRange(int valve, int a, int b, boolean falling) {
        needValve(valve);
        need(a, 0, 999);
        need(b, a + 1, 1000);
        save();
        Stem stem = state.stems[valve];
        long previous = 10000L * stem.a + stem.b;
        stem.a = a;
        stem.b = b;
        stem.falling = falling;
        return previous;
    }

    private static long put(int[] row, int[][] ranges, int what, int value, Runnable save) {
        need(what, 0, ranges.length - 1);
        need(value, ranges[what][0], ranges[what][1]);
        save.run();
        return row[what];
    }

    private long setValve(int valve, int what, int value) {
        needValve(valve);
        long previous = put(state.stems[valve].settings, VALVE_RANGES, what, value, this::save);
        state.stems[valve].settings[what] = value;
        return previous;
    }

    private long tune(int what, int value) {
        long previous = put(state.tuned, TUNE_RANGES, what, value, this::save);
        state.tuned[what] = value;
        return previous;
    }

    private long setSignal(int signal) {
        need(signal, 0, 1000);
        save();
        long previous = state.u;
        state.u = signal;
        return previous;
    }

    private long service(int valve) {
        needValve(valve);
        save();
        Stem stem = state.stems[valve];
        long previous = wear(stem);
        stem.travel = 0;
        stem.reversals = 0;
        stem.services++;
        return previous;
    }

    private long putStem(int valve, int position) {
        needValve(valve);
        need(position, 0, 1000);
        save();
        Stem stem = state.stems[valve];
        long previous = stem.s;
        stem.s = position;
        stem.lastWay = 0;
        stem.running = false;
        return previous;
    }

    private long run(int ticks) {
        need(ticks, 1, 500);
        if (state.time + ticks > 200000) {
            throw new IllegalStateException();
        }
        save();
        long busy = 0;
        for (int i = 0; i < ticks; i++) {
            busy += tick(state) ? 1 : 0;
        }
        return busy;
    }

    private long valve(int valve, int what) {
        needValve(valve);
        need(what, 0, 20);
        Stem stem = state.stems[valve];
        long[] all = {stem.settings[0], stem.settings[1], stem.settings[2], stem.settings[3], stem.settings[4], stem.a,
            stem.b, stem.falling ? 1 : 0, demand(stem, state.u), stem.s, stem.lastWay, stem.running ? 1 : 0,
            stem.travel, stem.reversals, stem.allTravel, stem.allReversals, wear(stem), threshold(stem, 1),
            threshold(stem, -1), flow(stem), stem.services};
        return all[what];
    }

    private long pair(int what) {
        need(what, 0, 11);
        long[] all = {state.u, state.tuned[0], state.tuned[1], state.tuned[2], state.tuned[3], state.time, flow(state),
            ideal(state, state.u), state.volume, state.missed, state.leaked, state.ledger.size()};
        return all[what];
    }

    private long ledger(int entry, int what) {
        need(entry, 0, Integer.MAX_VALUE);
        need(what, 0, 4);
        return entry < state.ledger.size() ? state.ledger.get(entry)[what] : -1000000;
    }

    private long ledgerSum(int valve, int what) {
        needValve(valve);
        need(what, 2, 4);
        return state.ledger.stream().filter(entry -> entry[0] == valve).mapToLong(entry -> entry[what]).sum();
    }

    double meanFlow() {
        return state.time == 0 ? -1.0 : (double) state.volume / (double) state.time;
    }

    private long signalFor(int flow) {
        need(flow, 0, 2000);
        for (int u = 0; u <= 1000; u++) {
            if (ideal(state, u) >= flow) {
                return u;
            }
        }
        return -1000000;
    }

    private long flatSignals() {
        long flat = 0;
        for (int u = 1; u <= 1000; u++) {
            boolean same = true;
            for (Stem stem : state.stems) {
                same &= demand(stem, u) == demand(stem, u - 1);
            }
            flat += same ? 1 : 0;
        }
        return flat;
    }

    private long firstFall() {
        for (int u = 1; u <= 1000; u++) {
            if (ideal(state, u) < ideal(state, u - 1)) {
                return u;
            }
        }
        return -1000000;
    }

    private long restAfter(int most) {
        need(most, 1, 500);
        State played = copyOf(state);
        for (int ticks = 1; ticks <= most; ticks++) {
            if (!tick(played)) {
                return ticks;
            }
        }
        return -1000000;
    }

    private long wornAfter(int valve, int wear, int most) {
        needValve(valve);
        need(wear, 0, 100000);
        need(most, 0, 500);
        State played = copyOf(state);
        int ticks = 0;
        while (wear(played.stems[valve]) < wear) {
            if (ticks == most) {
                return -1000000;
            }
            tick(played);
            ticks++;
        }
        return ticks;
    }

    private long missedWithin(int ticks) {
        need(ticks, 1, 500);
        State played = copyOf(state);
        played.missed = 0;
        for (int i = 0; i < ticks; i++) {
            tick(played);
        }
        return played.missed;
    }

    private long type(int value) {
        need(value, 0, 127);
        if (text.length() == 150) {
            throw new IllegalStateException();
        }
        text += (char) value;
        return text.length();
    }

    private static Pattern grammar() {
        StringBuilder command = new StringBuilder();
        for (int word = 0; word < WORDS.length; word++) {
            command.append(word == 0 ? "" : "|").append(WORDS[word]);
            for (int number = 0; number < NUMBERS[word]; number++) {
                command.append(" +[0-9]{1,4}");
            }
        }
        return Pattern.compile("( *(" + command + ") *;)* *");
    }

    private static final Pattern GRAMMAR = grammar();

    private static boolean isLetter(String text, int index) {
        return text.charAt(index) >= 'a' && text.charAt(index) <= 'z';
    }

    /** The index of the fault, or -1: the end of the longest prefix that some text without a fault begins with. */
    private static int faultOf(String text) {
        Matcher whole = GRAMMAR.matcher(text);
        if (whole.matches()) {
            return -1;
        }
        int end = 0;
        while (end < text.length()) {
            Matcher part = GRAMMAR.matcher(text.substring(0, end + 1));
            if (!part.matches() && !part.hitEnd()) {
                break;
            }
            end++;
        }
        int from = end;
        while (from > 0 && isLetter(text, from - 1)) {
            from--;
        }
        int to = from;
        while (to < text.length() && isLetter(text, to)) {
            to++;
        }
        boolean known = List.of(WORDS).contains(text.substring(from, to));
        return from < end && !known ? from : end;
    }

    private long runCommands() {
        int fault = faultOf(text);
        if (fault >= 0) {
            return -10 - fault;
        }
        List<State> before = new ArrayList<>(saved);
        State start = copyOf(state);
        long done = 0;
        for (String command : text.split(";")) {
            String[] parts = command.trim().split(" +");
            if (parts[0].isEmpty()) {
                break;
            }
            int[] n = new int[3];
            for (int i = 1; i < parts.length; i++) {
                n[i - 1] = Integer.parseInt(parts[i]);
            }
            try {
                carryOut(parts[0], n);
            } catch (IndexOutOfBoundsException | IllegalArgumentException | IllegalStateException e) {
                break;
            }
            done++;
        }
        State end = state;
        saved.clear();
        saved.addAll(before);
        state = start;
        save();
        state = end;
        return done;
    }

    private void carryOut(String word, int[] n) {
        switch (word) {
            case "rise" -> setRange(n[0], n[1], n[2], false);
            case "fall" -> setRange(n[0], n[1], n[2], true);
            case "set" -> setValve(n[0], n[1], n[2]);
            case "signal" -> setSignal(n[0]);
            case "hold" -> {
                tune(2, n[0]);
                tune(0, 1);
            }
            case "free" -> tune(0, 0);
            case "service" -> service(n[0]);
            default -> run(n[0]);
        }
    }

    private long undo() {
        if (saved.isEmpty()) {
            throw new IllegalStateException();
        }
        state = saved.remove(saved.size() - 1);
        return saved.size();
    }

    private long digest() {
        List<Long> values = new ArrayList<>();
        values.add((long) saved.size());
        values.add((long) text.length());
        for (int what = 0; what <= 11; what++) {
            values.add(pair(what));
        }
        for (int v = 0; v < 2; v++) {
            for (int what = 0; what <= 20; what++) {
                values.add(valve(v, what));
            }
            for (int what = 2; what <= 4; what++) {
                values.add(ledgerSum(v, what));
            }
        }
        for (long[] entry : state.ledger) {
            for (long value : entry) {
                values.add(value);
            }
        }
        values.add(flatSignals());
        values.add(firstFall());
        long h = 43183;
        for (long value : values) {
            h = 31 * h + value;
        }
        return h;
    }

    /** The answer of a call by its number, in the order of the document's face. */
    long answer(int call, int[] n) {
        switch (call) {
            case 0: return setRange(n[0], n[1], n[2], n[3] == 1);
            case 1: return setValve(n[0], n[1], n[2]);
            case 2: return setSignal(n[0]);
            case 3: return tune(n[0], n[1]);
            case 4: return service(n[0]);
            case 5: return putStem(n[0], n[1]);
            case 6: return run(n[0]);
            case 7: return valve(n[0], n[1]);
            case 8: return pair(n[0]);
            case 9: return ledger(n[0], n[1]);
            case 10: return ledgerSum(n[0], n[1]);
            case 11: return Double.doubleToLongBits(meanFlow());
            case 12: need(n[0], 0, 1000); return ideal(state, n[0]);
            case 13: return signalFor(n[0]);
            case 14: return flatSignals();
            case 15: return firstFall();
            case 16: needValve(n[0]); need(n[1], 0, 1000); return moveOf(state.stems[n[0]], n[1]);
            case 17: return restAfter(n[0]);
            case 18: return wornAfter(n[0], n[1], n[2]);
            case 19: return missedWithin(n[0]);
            case 20: return type(n[0]);
            case 21: int length = text.length(); text = ""; return length;
            case 22: return runCommands();
            case 23: return undo();
            default: return digest();
        }
    }
}
