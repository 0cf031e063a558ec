/** A pair of valves that share the range of one signal, as shared/DOC.md promises it. */
public final class ValveTwins {
    public static final int NONE = -1000000;

    private static final int FULL = 1000;
    private static final int MOST_STICK = 300;
    private static final int MOST_GAIN = 10000;
    private static final int MOST_FLOW = 2000;
    private static final int MOST_WEAR = 100000;
    private static final int MOST_TICKS = 500;
    private static final int MOST_TIME = 200000;
    private static final int DAY = 100;
    private static final int UP = 1;
    private static final int DOWN = -1;
    private static final int VALVES = 2;
    private static final int VALVE_VALUES = 21;
    private static final int PAIR_VALUES = 12;

    private final Twins now = new Twins();
    // What-if questions play on this copy; it is made once, since nothing that a run makes is ever freed.
    private final Twins guess = new Twins();
    private final History history = new History();
    private final Script script = new Script();

    public ValveTwins() {
    }

    // ---- settings

    public int setRange(int valve, int a, int b, boolean falling) throws IndexOutOfBoundsException, IllegalArgumentException {
        refuseUnlessValve(valve);
        refuseUnless(isRange(a, b));
        history.save(now);
        return now.at(valve).changeRange(a, b, falling);
    }

    public int setValve(int valve, int what, int value) throws IndexOutOfBoundsException, IllegalArgumentException {
        refuseUnlessValve(valve);
        refuseUnless(isValveSetting(what, value));
        history.save(now);
        return now.at(valve).changeSetting(what, value);
    }

    public int setSignal(int signal) throws IllegalArgumentException {
        refuseUnless(isSignal(signal));
        history.save(now);
        return now.changeSignal(signal);
    }

    public int tune(int what, int value) throws IllegalArgumentException {
        refuseUnless(isControllerSetting(what, value));
        history.save(now);
        return now.changeSetting(what, value);
    }

    public int service(int valve) throws IndexOutOfBoundsException {
        refuseUnlessValve(valve);
        history.save(now);
        return now.at(valve).renew();
    }

    public int putStem(int valve, int position) throws IndexOutOfBoundsException, IllegalArgumentException {
        refuseUnlessValve(valve);
        refuseUnless(within(position, 0, FULL));
        history.save(now);
        return now.at(valve).putAt(position);
    }

    public int run(int ticks) throws IllegalArgumentException, IllegalStateException {
        refuseUnless(isTicks(ticks));
        if (!isTimeLeft(ticks)) {
            throw new IllegalStateException("the time would be more than 200000");
        }
        history.save(now);
        return now.pass(ticks);
    }

    // ---- values

    public int valve(int valve, int what) throws IndexOutOfBoundsException, IllegalArgumentException {
        refuseUnlessValve(valve);
        refuseUnless(within(what, 0, VALVE_VALUES - 1));
        return now.at(valve).value(what, now.signal);
    }

    public int pair(int what) throws IllegalArgumentException {
        refuseUnless(within(what, 0, PAIR_VALUES - 1));
        return now.value(what);
    }

    public int ledger(int entry, int what) throws IllegalArgumentException {
        refuseUnless(entry >= 0 && within(what, Book.VALVE, Book.LEAKED));
        return now.book.cell(entry, what);
    }

    public int ledgerSum(int valve, int what) throws IndexOutOfBoundsException, IllegalArgumentException {
        refuseUnlessValve(valve);
        refuseUnless(within(what, Book.TRAVEL, Book.LEAKED));
        return now.book.sum(valve, what);
    }

    public double meanFlow() {
        if (now.time <= 0) {
            return -1.0;
        }
        return (double) now.volume / (double) now.time;
    }

    // ---- what if, which changes nothing

    public int idealFlow(int signal) throws IllegalArgumentException {
        refuseUnless(isSignal(signal));
        return now.idealFor(signal);
    }

    public int signalFor(int flow) throws IllegalArgumentException {
        refuseUnless(within(flow, 0, MOST_FLOW));
        return now.leastSignal(flow);
    }

    public int flatSignals() {
        return now.countFlat();
    }

    public int firstFall() {
        return now.findFall();
    }

    public int moveFor(int valve, int signal) throws IndexOutOfBoundsException, IllegalArgumentException {
        refuseUnlessValve(valve);
        refuseUnless(isSignal(signal));
        Valve moved = now.at(valve);
        return moved.moveTowards(moved.demandFor(signal));
    }

    public int restAfter(int most) throws IllegalArgumentException {
        refuseUnless(isTicks(most));
        guess.copy(now);
        for (int ticks = 1; ticks <= most; ticks++) {
            if (!guess.tick()) {
                return ticks;
            }
        }
        return NONE;
    }

    public int wornAfter(int valve, int wear, int most) throws IndexOutOfBoundsException, IllegalArgumentException {
        refuseUnlessValve(valve);
        refuseUnless(within(wear, 0, MOST_WEAR) && within(most, 0, MOST_TICKS));
        guess.copy(now);
        Valve worn = guess.at(valve);
        for (int ticks = 0; ticks <= most; ticks++) {
            if (worn.wear() >= wear) {
                return ticks;
            }
            guess.tick();
        }
        return NONE;
    }

    public int missedWithin(int ticks) throws IllegalArgumentException {
        refuseUnless(isTicks(ticks));
        guess.copy(now);
        guess.pass(ticks);
        return guess.missed - now.missed;
    }

    // ---- command text, undo and checksum

    public int type(int value) throws IllegalArgumentException, IllegalStateException {
        refuseUnless(within(value, 0, 127));
        if (script.isFull()) {
            throw new IllegalStateException("the text has 150 bytes");
        }
        return script.append(value);
    }

    public int clearCommands() {
        return script.empty();
    }

    public int runCommands() {
        int fault = script.findFault();
        if (fault != Script.SOUND) {
            return -10 - fault;
        }
        history.save(now);
        script.rewind();
        int count = 0;
        while (count < Script.MOST_BYTES && script.next()) {
            Word word = script.word;
            if (word == null || !isAllowed(word)) {
                break;
            }
            carryOut(word);
            count++;
        }
        return count;
    }

    public int undo() throws IllegalStateException {
        if (history.count == 0) {
            throw new IllegalStateException("no state is saved");
        }
        return history.restore(now);
    }

    public long digest() {
        long hash = 43183;
        hash = 31 * hash + history.count;
        hash = 31 * hash + script.length;
        for (int what = 0; what < PAIR_VALUES; what++) {
            hash = 31 * hash + now.value(what);
        }
        for (int number = 0; number < VALVES; number++) {
            hash = digestValve(hash, number);
        }
        for (int entry = 0; entry < now.book.rows; entry++) {
            for (int what = Book.VALVE; what <= Book.LEAKED; what++) {
                hash = 31 * hash + now.book.cell(entry, what);
            }
        }
        hash = 31 * hash + now.countFlat();
        return 31 * hash + now.findFall();
    }

    private long digestValve(long start, int number) {
        long hash = start;
        for (int what = 0; what < VALVE_VALUES; what++) {
            hash = 31 * hash + now.at(number).value(what, now.signal);
        }
        for (int what = Book.TRAVEL; what <= Book.LEAKED; what++) {
            hash = 31 * hash + now.book.sum(number, what);
        }
        return hash;
    }

    // ---- what the arguments may be

    private static void refuseUnlessValve(int valve) {
        if (!isValve(valve)) {
            throw new IndexOutOfBoundsException("no such valve");
        }
    }

    private static void refuseUnless(boolean inRange) {
        if (!inRange) {
            throw new IllegalArgumentException("out of range");
        }
    }

    private static boolean within(int value, int least, int most) {
        return value >= least && value <= most;
    }

    private static boolean isValve(int valve) {
        return within(valve, 0, VALVES - 1);
    }

    private static boolean isRange(int a, int b) {
        return a >= 0 && a < b && b <= FULL;
    }

    private static boolean isSignal(int signal) {
        return within(signal, 0, FULL);
    }

    private static boolean isTicks(int ticks) {
        return within(ticks, 1, MOST_TICKS);
    }

    private boolean isTimeLeft(int ticks) {
        return now.time + ticks <= MOST_TIME;
    }

    private static boolean isValveSetting(int what, int value) {
        switch (what) {
            case Valve.SPEED: return within(value, 1, FULL);
            case Valve.STICK: return within(value, 0, MOST_STICK);
            case Valve.EXTRA: return within(value, 0, MOST_STICK);
            case Valve.SIZE: return within(value, 0, FULL);
            case Valve.CHARACTERISTIC: return within(value, 0, 2);
            default: return false;
        }
    }

    private static boolean isControllerSetting(int what, int value) {
        switch (what) {
            case Twins.ON: return within(value, 0, 1);
            case Twins.GAIN: return within(value, -MOST_GAIN, MOST_GAIN);
            case Twins.WANTED: return within(value, 0, MOST_FLOW);
            case Twins.RATE: return within(value, 1, FULL);
            default: return false;
        }
    }

    // ---- commands

    /** Answers whether the call of the same meaning would not throw. */
    private boolean isAllowed(Word word) {
        int number = script.number(0);
        switch (word) {
            case RISE:
            case FALL: return isValve(number) && isRange(script.number(1), script.number(2));
            case SET: return isValve(number) && isValveSetting(script.number(1), script.number(2));
            case SIGNAL: return isSignal(number);
            case HOLD: return isControllerSetting(Twins.WANTED, number);
            case FREE: return true;
            case SERVICE: return isValve(number);
            case RUN: return isTicks(number) && isTimeLeft(number);
            default: return false;
        }
    }

    private void carryOut(Word word) {
        int number = script.number(0);
        switch (word) {
            case RISE: now.at(number).changeRange(script.number(1), script.number(2), false); break;
            case FALL: now.at(number).changeRange(script.number(1), script.number(2), true); break;
            case SET: now.at(number).changeSetting(script.number(1), script.number(2)); break;
            case SIGNAL: now.changeSignal(number); break;
            case HOLD: hold(number); break;
            case FREE: now.changeSetting(Twins.ON, 0); break;
            case SERVICE: now.at(number).renew(); break;
            case RUN: now.pass(number); break;
            default: break;
        }
    }

    private void hold(int wanted) {
        now.changeSetting(Twins.WANTED, wanted);
        now.changeSetting(Twins.ON, 1);
    }

    /** The whole state but the command text: what undo brings back and what-if questions copy. */
    private static final class Twins {
        static final int ON = 0;
        static final int GAIN = 1;
        static final int WANTED = 2;
        static final int RATE = 3;

        final Valve first = new Valve(0, 500);
        final Valve second = new Valve(500, FULL);
        final Book book = new Book();
        int signal;
        int on;
        int gain = 100;
        int wanted;
        int rate = 1000;
        int time;
        int volume;
        int missed;
        int leaked;

        Twins() {
        }

        void copy(Twins other) {
            first.copy(other.first);
            second.copy(other.second);
            book.copy(other.book);
            signal = other.signal;
            on = other.on;
            gain = other.gain;
            wanted = other.wanted;
            rate = other.rate;
            time = other.time;
            volume = other.volume;
            missed = other.missed;
            leaked = other.leaked;
        }

        Valve at(int number) {
            return number == 0 ? first : second;
        }

        int value(int what) {
            switch (what) {
                case 0: return signal;
                case 1: return on;
                case 2: return gain;
                case 3: return wanted;
                case 4: return rate;
                case 5: return time;
                case 6: return flow();
                case 7: return idealFor(signal);
                case 8: return volume;
                case 9: return missed;
                case 10: return leaked;
                default: return book.rows;
            }
        }

        int changeSignal(int value) {
            int previous = signal;
            signal = value;
            return previous;
        }

        int changeSetting(int what, int value) {
            int previous = value(1 + what);
            switch (what) {
                case ON: on = value; break;
                case GAIN: gain = value; break;
                case WANTED: wanted = value; break;
                default: rate = value; break;
            }
            return previous;
        }

        int flow() {
            return first.flow() + second.flow();
        }

        int idealFor(int anySignal) {
            return first.idealFor(anySignal) + second.idealFor(anySignal);
        }

        int leastSignal(int leastFlow) {
            for (int tried = 0; tried <= FULL; tried++) {
                if (idealFor(tried) >= leastFlow) {
                    return tried;
                }
            }
            return NONE;
        }

        int countFlat() {
            int flat = 0;
            for (int tried = 1; tried <= FULL; tried++) {
                if (first.demandFor(tried) == first.demandFor(tried - 1)
                        && second.demandFor(tried) == second.demandFor(tried - 1)) {
                    flat++;
                }
            }
            return flat;
        }

        int findFall() {
            int before = idealFor(0);
            for (int tried = 1; tried <= FULL; tried++) {
                int ideal = idealFor(tried);
                if (ideal < before) {
                    return tried;
                }
                before = ideal;
            }
            return NONE;
        }

        /** Answers the number of ticks in which a stem moved. */
        int pass(int ticks) {
            int busy = 0;
            for (int passed = 0; passed < ticks; passed++) {
                if (tick()) {
                    busy++;
                }
            }
            return busy;
        }

        /** Answers whether a stem moved. */
        boolean tick() {
            if (on == 1) {
                steer(flow());
            }
            boolean moved = false;
            for (int number = 0; number < VALVES; number++) {
                // A valve's leak and its entry depend on nothing of the other one: they are booked at once.
                Valve valve = at(number);
                int move = valve.moveTowards(valve.demandFor(signal));
                int turns = valve.shift(move);
                int leak = valve.position == 0 ? valve.flow() : 0;
                leaked += leak;
                book.add(number, time / DAY, Math.abs(move), turns, leak);
                moved = moved || move != 0;
            }
            int flow = flow();
            volume += flow;
            missed += Math.abs(flow - idealFor(signal));
            time++;
            return moved;
        }

        private void steer(int flow) {
            int change = Math.floorDiv(gain * (wanted - flow), 1000);
            int allowed = Math.max(-rate, Math.min(rate, change));
            signal = Math.max(0, Math.min(FULL, signal + allowed));
        }
    }

    private static final class Valve {
        static final int SPEED = 0;
        static final int STICK = 1;
        static final int EXTRA = 2;
        static final int SIZE = 3;
        static final int CHARACTERISTIC = 4;

        int from;
        int to;
        boolean falling;
        int speed = 1000;
        int stick = 10;
        int extraStick = 20;
        int size = 100;
        int characteristic;
        int position;
        int lastWay;
        boolean running;
        int travel;
        int reversals;
        int travelInAll;
        int reversalsInAll;
        int services;

        Valve(int from, int to) {
            this.from = from;
            this.to = to;
        }

        void copy(Valve other) {
            from = other.from;
            to = other.to;
            falling = other.falling;
            speed = other.speed;
            stick = other.stick;
            extraStick = other.extraStick;
            size = other.size;
            characteristic = other.characteristic;
            position = other.position;
            lastWay = other.lastWay;
            running = other.running;
            travel = other.travel;
            reversals = other.reversals;
            travelInAll = other.travelInAll;
            reversalsInAll = other.reversalsInAll;
            services = other.services;
        }

        int value(int what, int signal) {
            switch (what) {
                case SPEED: return speed;
                case STICK: return stick;
                case EXTRA: return extraStick;
                case SIZE: return size;
                case CHARACTERISTIC: return characteristic;
                case 5: return from;
                case 6: return to;
                case 7: return falling ? 1 : 0;
                case 8: return demandFor(signal);
                case 9: return position;
                case 10: return lastWay;
                case 11: return running ? 1 : 0;
                case 12: return travel;
                case 13: return reversals;
                case 14: return travelInAll;
                case 15: return reversalsInAll;
                case 16: return wear();
                case 17: return threshold(UP);
                case 18: return threshold(DOWN);
                case 19: return flow();
                default: return services;
            }
        }

        int changeSetting(int what, int value) {
            int previous = value(what, 0);
            switch (what) {
                case SPEED: speed = value; break;
                case STICK: stick = value; break;
                case EXTRA: extraStick = value; break;
                case SIZE: size = value; break;
                default: characteristic = value; break;
            }
            return previous;
        }

        int changeRange(int a, int b, boolean falls) {
            int previous = 10000 * from + to;
            from = a;
            to = b;
            falling = falls;
            return previous;
        }

        /** Answers the wear before the service. */
        int renew() {
            int previous = wear();
            travel = 0;
            reversals = 0;
            services++;
            return previous;
        }

        int putAt(int place) {
            int previous = position;
            position = place;
            running = false;
            lastWay = 0;
            return previous;
        }

        int demandFor(int signal) {
            int width = to - from;
            int share = 0;
            if (signal >= to) {
                share = FULL;
            } else if (signal > from && width > 0) {
                share = FULL * (signal - from) / width;
            }
            return falling ? FULL - share : share;
        }

        int wear() {
            return travel / 100 + 3 * reversals;
        }

        int threshold(int way) {
            if (running && lastWay == way) {
                return 0;
            }
            int rest = stick + wear() / 50;
            return lastWay == -way ? rest + extraStick : rest;
        }

        /** Answers the move of the next tick, with its sign; 0 if the stem would stay. */
        int moveTowards(int demand) {
            int way = demand > position ? UP : DOWN;
            int distance = Math.abs(demand - position);
            if (distance == 0 || distance <= threshold(way)) {
                return 0;
            }
            return way * Math.min(distance, speed);
        }

        /** Moves the stem, or lets it rest for 0; answers the number of reversals in this. */
        int shift(int move) {
            running = move != 0;
            if (move == 0) {
                return 0;
            }
            int way = move > 0 ? UP : DOWN;
            int turns = lastWay == -way ? 1 : 0;
            position += move;
            travel += Math.abs(move);
            travelInAll += Math.abs(move);
            reversals += turns;
            reversalsInAll += turns;
            lastWay = way;
            return turns;
        }

        int flow() {
            return position > 0 ? through(position) : Math.min(size, wear() / 20);
        }

        // A demand of 0 needs no case of its own: nothing goes through at 0, by each characteristic.
        int idealFor(int signal) {
            return through(demandFor(signal));
        }

        private int through(int place) {
            int opening = place;
            if (characteristic == 1) {
                opening = place * place / FULL;
            } else if (characteristic == 2) {
                opening = FULL - (FULL - place) * (FULL - place) / FULL;
            }
            return size * opening / FULL;
        }
    }

    /** The ledger; its rows lie in one array, so that copying a state makes nothing new. */
    private static final class Book {
        static final int VALVE = 0;
        static final int DAY_OF = 1;
        static final int TRAVEL = 2;
        static final int REVERSALS = 3;
        static final int LEAKED = 4;
        static final int COLUMNS = 5;
        static final int MOST_ROWS = 12;

        final int[] cells = new int[MOST_ROWS * COLUMNS];
        int rows;

        Book() {
        }

        void copy(Book other) {
            System.arraycopy(other.cells, 0, cells, 0, MOST_ROWS * COLUMNS);
            rows = other.rows;
        }

        int cell(int row, int column) {
            if (!within(row, 0, rows - 1) || !within(column, 0, COLUMNS - 1)) {
                return NONE;
            }
            return cells[row * COLUMNS + column];
        }

        int sum(int valve, int column) {
            int total = 0;
            for (int row = 0; row < rows; row++) {
                if (cell(row, VALVE) == valve) {
                    total += cell(row, column);
                }
            }
            return total;
        }

        void add(int valve, int day, int travel, int turns, int leak) {
            int row = find(valve, day);
            if (row < 0) {
                row = make(valve, day);
            }
            int start = row * COLUMNS;
            cells[start + TRAVEL] += travel;
            cells[start + REVERSALS] += turns;
            cells[start + LEAKED] += leak;
        }

        private int find(int valve, int day) {
            for (int row = rows - 1; row >= 0; row--) {
                int start = row * COLUMNS;
                if (cells[start + DAY_OF] == day && cells[start + VALVE] == valve) {
                    return row;
                }
            }
            return -1;
        }

        private int make(int valve, int day) {
            if (rows >= MOST_ROWS) {
                System.arraycopy(cells, COLUMNS, cells, 0, (MOST_ROWS - 1) * COLUMNS);
                rows = MOST_ROWS - 1;
            }
            int start = rows * COLUMNS;
            cells[start + VALVE] = valve;
            cells[start + DAY_OF] = day;
            cells[start + TRAVEL] = 0;
            cells[start + REVERSALS] = 0;
            cells[start + LEAKED] = 0;
            rows++;
            return rows - 1;
        }
    }

    /** The undo stack: a ring of states that are made once and written over. */
    private static final class History {
        static final int MOST_STATES = 4;

        final Twins[] states = new Twins[MOST_STATES];
        int latest;
        int count;

        History() {
            for (int place = 0; place < MOST_STATES; place++) {
                states[place] = new Twins();
            }
        }

        void save(Twins state) {
            latest = Math.floorMod(latest + 1, MOST_STATES);
            states[latest].copy(state);
            count = Math.min(count + 1, MOST_STATES);
        }

        /** Answers the number of states that are left. */
        int restore(Twins state) {
            if (count > 0) {
                state.copy(states[latest]);
                latest = Math.floorMod(latest - 1, MOST_STATES);
                count--;
            }
            return count;
        }
    }

    private enum Word {
        RISE("rise", 3),
        FALL("fall", 3),
        SET("set", 3),
        SIGNAL("signal", 1),
        HOLD("hold", 1),
        FREE("free", 0),
        SERVICE("service", 1),
        RUN("run", 1);

        private static final Word[] ALL = values();

        final String letters;
        final int numbers;

        Word(String letters, int numbers) {
            this.letters = letters;
            this.numbers = numbers;
        }

        /** Answers the word that stands there, or null. */
        static Word of(int[] text, int start, int end) {
            for (Word word : ALL) {
                if (word.stands(text, start, end)) {
                    return word;
                }
            }
            return null;
        }

        private boolean stands(int[] text, int start, int end) {
            if (start < 0 || end > text.length || end - start != letters.length()) {
                return false;
            }
            for (int i = 0; i < letters.length(); i++) {
                if (text[start + i] != letters.charAt(i)) {
                    return false;
                }
            }
            return true;
        }
    }

    /** The command text, and a reader that goes through it command by command. */
    private static final class Script {
        static final int MOST_BYTES = 150;
        static final int MOST_NUMBERS = 3;
        static final int MOST_DIGITS = 4;
        static final int SOUND = -1;
        static final int END = -1;

        final int[] bytes = new int[MOST_BYTES];
        final int[] numbers = new int[MOST_NUMBERS];
        int length;
        int at;
        int fault = SOUND;
        Word word;

        Script() {
        }

        boolean isFull() {
            return length >= MOST_BYTES;
        }

        int append(int value) {
            if (!isFull()) {
                bytes[length] = value;
                length++;
            }
            return length;
        }

        int empty() {
            int previous = length;
            length = 0;
            return previous;
        }

        int number(int index) {
            return within(index, 0, MOST_NUMBERS - 1) ? numbers[index] : 0;
        }

        void rewind() {
            at = 0;
            fault = SOUND;
        }

        /** Answers the index of the fault, or SOUND. */
        int findFault() {
            rewind();
            int count = 0;
            while (count < MOST_BYTES && next()) {
                count++;
            }
            return fault;
        }

        /** Reads the next command; answers false at the end of the text, or at its fault. */
        boolean next() {
            skipSpaces();
            if (here() == END) {
                return false;
            }
            int start = at;
            skipLetters();
            word = Word.of(bytes, start, at);
            if (word == null) {
                // This also covers a byte that cannot begin a word: it then has no letters.
                fault = start;
                return false;
            }
            for (int index = 0; index < word.numbers; index++) {
                if (!readNumber(index)) {
                    fault = at;
                    return false;
                }
            }
            skipSpaces();
            if (here() != ';') {
                fault = at;
                return false;
            }
            at++;
            return true;
        }

        private int here() {
            return within(at, 0, length - 1) && at < MOST_BYTES ? bytes[at] : END;
        }

        private void skipSpaces() {
            while (at < length && here() == ' ') {
                at++;
            }
        }

        private void skipLetters() {
            while (at < length && within(here(), 'a', 'z')) {
                at++;
            }
        }

        private boolean readNumber(int index) {
            int gap = at;
            skipSpaces();
            if (at == gap) {
                return false;
            }
            int value = 0;
            int digits = 0;
            while (digits < MOST_DIGITS && within(here(), '0', '9')) {
                value = 10 * value + here() - '0';
                at++;
                digits++;
            }
            if (digits == 0 || !within(index, 0, MOST_NUMBERS - 1)) {
                return false;
            }
            numbers[index] = value;
            return true;
        }
    }
}
