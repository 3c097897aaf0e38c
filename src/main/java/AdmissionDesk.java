import java.util.NoSuchElementException;

/** An admission desk before a cache; ../shared/DOC.md tells what each call answers. */
public final class AdmissionDesk {
    public static final int NONE = -1;

    private static final int KEYS = 100000;
    private static final int ROWS = 4;
    private static final int ROOM_MOST = 64;
    private static final int DOOR_MOST = 99;
    private static final int TEXT_BYTES = 400;
    private static final int HISTORY_ASKS = 100;
    private static final int TRACE_ASKS = 500;
    private static final int NEEDED_MOST = 20;
    private static final int TWIN_KEYS = 1000;

    private static final int WINDOW = 1;
    private static final int TRIED = 2;
    private static final int SAFE = 3;

    private final Row tape = new Row(TEXT_BYTES);
    private final Row written = new Row(HISTORY_ASKS * 6);
    private final LawReader lawReader = new LawReader();
    private final TraceReader traceReader = new TraceReader();
    private final Lookback lookback = new Lookback();
    private final Desk desk = new Desk();
    private final Desk kept = new Desk();
    // Replays and trials go on here, so that nothing of them stays at the desk.
    private final Desk spare = new Desk();
    private boolean isKept;
    private int latestFault = NONE;

    public AdmissionDesk() {
    }

    public int feed(int a, int b, int c, int d, int e) {
        if (tape.size() + 20 > TEXT_BYTES) {
            return NONE;
        }
        appendBytes(a);
        appendBytes(b);
        appendBytes(c);
        appendBytes(d);
        appendBytes(e);
        return tape.size();
    }

    private void appendBytes(int number) {
        for (int shift = 24; shift >= 0; shift -= 8) {
            tape.append((number >>> shift) & 255);
        }
    }

    public boolean end(int n) {
        if (n < 0 || n > tape.size()) {
            return false;
        }
        tape.cut(n);
        return true;
    }

    public int law() throws IllegalArgumentException {
        latestFault = lawReader.read(tape);
        tape.cut(0);
        if (latestFault != NONE) {
            throw new IllegalArgumentException("the text of the law is wrong");
        }
        desk.law.copyFrom(lawReader.draft);
        return desk.law.parts;
    }

    public boolean free() {
        boolean was = desk.law.isText();
        desk.law.remove();
        return was;
    }

    public int trace() throws IllegalArgumentException {
        latestFault = traceReader.read(tape);
        tape.cut(0);
        if (latestFault != NONE) {
            throw new IllegalArgumentException("the text of the trace is wrong");
        }
        int before = desk.hits;
        for (int k = 0; k < traceReader.keys.size(); k++) {
            desk.serve(traceReader.keys.get(k));
        }
        return desk.hits - before;
    }

    public int fault() {
        return latestFault;
    }

    public int ask(int key) throws IllegalArgumentException {
        if (!isKey(key)) {
            throw new IllegalArgumentException("no key");
        }
        return desk.serve(key);
    }

    public int where(int key) throws IllegalArgumentException {
        if (!isKey(key)) {
            throw new IllegalArgumentException("no key");
        }
        return desk.partOf(key);
    }

    public int part(int part, int what) throws NoSuchElementException {
        if (!isPart(part)) {
            throw new NoSuchElementException("no such part");
        }
        if (what != 0 && what != 1) {
            throw new NoSuchElementException("no such what");
        }
        return what == 0 ? desk.rowOf(part).size() : desk.shares.partFor(part);
    }

    public int at(int part, int k) throws NoSuchElementException {
        if (!isPart(part)) {
            throw new NoSuchElementException("no such part");
        }
        return desk.rowOf(part).get(k);
    }

    public int latest(int what) throws NoSuchElementException {
        switch (what) {
            case 0:
                return desk.contest.candidate;
            case 1:
                return desk.contest.victim;
            case 2:
                return desk.contest.loser;
            case 3:
                return desk.contest.won;
            default:
                throw new NoSuchElementException("no such what");
        }
    }

    public int out(int k) {
        return desk.gone.get(k);
    }

    public int estimate(int key) throws IllegalArgumentException {
        if (!isKey(key)) {
            throw new IllegalArgumentException("no key");
        }
        return desk.sketch.estimateOf(key);
    }

    public int place(int key, int row) throws IllegalArgumentException {
        if (!isKey(key)) {
            throw new IllegalArgumentException("no key");
        }
        if (row < 0 || row >= ROWS) {
            throw new IllegalArgumentException("no such row");
        }
        return desk.sketch.placeOf(key, row);
    }

    public int counter(int row, int place) throws IllegalArgumentException {
        if (row < 0 || row >= ROWS) {
            throw new IllegalArgumentException("no such row");
        }
        if (place < 0 || place >= desk.sketch.places()) {
            throw new IllegalArgumentException("no such place");
        }
        return desk.sketch.counterOf(row, place);
    }

    public int meets(int key, int other) throws IllegalArgumentException {
        if (!isKey(key) || !isKey(other)) {
            throw new IllegalArgumentException("no key");
        }
        return desk.sketch.sharedRows(key, other);
    }

    public boolean noted(int key) throws IllegalArgumentException {
        if (!isKey(key)) {
            throw new IllegalArgumentException("no key");
        }
        return desk.sketch.hasNoted(key);
    }

    public int halve() {
        desk.sketch.halveAll();
        return desk.sketch.added;
    }

    public boolean wins(int candidate, int victim) throws IllegalArgumentException {
        if (!isKey(candidate) || !isKey(victim)) {
            throw new IllegalArgumentException("no key");
        }
        return desk.beats(candidate, victim);
    }

    public int tell(int what, int n) throws NoSuchElementException, IllegalArgumentException {
        if (what < 0 || what > 5) {
            throw new NoSuchElementException("no such what");
        }
        if (!isSetting(what, n)) {
            throw new IllegalArgumentException("out of bounds");
        }
        int was = desk.setting(what);
        desk.set(what, n);
        return was;
    }

    public boolean doorman(boolean is) {
        if (desk.sketch.isDoorman == is) {
            return false;
        }
        desk.sketch.isDoorman = is;
        desk.sketch.forgetNotes();
        return true;
    }

    public int again(int door) throws IllegalArgumentException {
        if (door < 1 || door > DOOR_MOST) {
            throw new IllegalArgumentException("no door");
        }
        return hitsBehind(door);
    }

    private int hitsBehind(int door) {
        spare.startLike(desk, door);
        for (int k = 0; k < desk.past.size(); k++) {
            spare.serve(desk.past.get(k));
        }
        return spare.hits;
    }

    public int best(boolean hits) {
        int door = 1;
        int most = hitsBehind(1);
        for (int other = 10; other <= 90; other += 10) {
            int found = hitsBehind(other);
            if (found > most) {
                door = other;
                most = found;
            }
        }
        return hits ? most : door;
    }

    public int plain(int room) throws IllegalArgumentException {
        if (!isRoom(room)) {
            throw new IllegalArgumentException("no room");
        }
        lookback.measure(desk.past);
        return lookback.plainHits(room);
    }

    public int ideal(int room) throws IllegalArgumentException {
        if (!isRoom(room)) {
            throw new IllegalArgumentException("no room");
        }
        return lookback.idealHits(desk.past, room);
    }

    public int enough(int hits) {
        lookback.measure(desk.past);
        for (int room = 1; room <= ROOM_MOST; room++) {
            if (lookback.plainHits(room) >= hits) {
                return room;
            }
        }
        return NONE;
    }

    public int needed(int key, int victim) throws IllegalArgumentException {
        if (!isKey(key) || !isKey(victim)) {
            throw new IllegalArgumentException("no key");
        }
        spare.copyFrom(desk);
        for (int n = 0; n <= NEEDED_MOST; n++) {
            if (spare.beats(key, victim)) {
                return n;
            }
            spare.sketch.add(key);
        }
        return NONE;
    }

    public int twin(int key) throws IllegalArgumentException {
        if (!isKey(key)) {
            throw new IllegalArgumentException("no key");
        }
        int twin = NONE;
        int most = NONE;
        for (int other = 0; other < TWIN_KEYS; other++) {
            int shared = other == key ? NONE : desk.sketch.sharedRows(key, other);
            if (shared > most) {
                twin = other;
                most = shared;
            }
        }
        return twin;
    }

    public int history(int k) {
        return desk.past.get(k);
    }

    public int past(int what) throws NoSuchElementException {
        switch (what) {
            case 0:
                return lookback.unlikeKeys(desk.past);
            case 1:
                return lookback.commonest(desk.past);
            case 2:
                return lookback.timesOf(desk.past, lookback.commonest(desk.past));
            case 3:
                return lookback.longestUnlike(desk.past);
            case 4:
                return lookback.widestGap(desk.past);
            default:
                throw new NoSuchElementException("no such what");
        }
    }

    public int asked(int key) throws IllegalArgumentException {
        if (!isKey(key)) {
            throw new IllegalArgumentException("no key");
        }
        return lookback.timesOf(desk.past, key);
    }

    public int hot(int k) {
        return desk.hotKeys().get(k);
    }

    public int heat(int n) {
        return desk.keysWith(n);
    }

    public int write() {
        written.cut(0);
        lookback.writeTo(written, desk.past);
        return written.size();
    }

    public int octet(int k) {
        return written.get(k);
    }

    public int keep() {
        kept.copyFrom(desk);
        isKept = true;
        return kept.asks;
    }

    public int back() throws IllegalStateException {
        if (!isKept) {
            throw new IllegalStateException("nothing was kept");
        }
        desk.copyFrom(kept);
        return desk.asks;
    }

    public int count(int what) {
        switch (what) {
            case 0:
                return desk.asks;
            case 1:
                return desk.hits;
            case 2:
                return desk.outs;
            case 3:
                return desk.regrets;
            case 4:
                return desk.sketch.added;
            case 5:
                return desk.sketch.halvings;
            case 6:
                return desk.window.size() + desk.tried.size() + desk.safe.size();
            case 7:
                return desk.shares.door;
            case 8:
                return desk.shares.room;
            case 9:
                return desk.shares.kept;
            default:
                return countMore(what);
        }
    }

    private int countMore(int what) {
        switch (what) {
            case 10:
                return desk.sketch.sample;
            case 11:
                return desk.climb.period;
            case 12:
                return desk.sketch.wide;
            case 13:
                return desk.sketch.isDoorman ? 1 : 0;
            case 14:
                return desk.sketch.bitsSet();
            case 15:
                return desk.sketch.countersUsed();
            case 16:
                return desk.sketch.countersTogether();
            case 17:
                return desk.past.size();
            case 18:
                return desk.law.parts;
            case 19:
                return desk.won;
            case 20:
                return desk.lost;
            default:
                return NONE;
        }
    }

    private static boolean isKey(int key) {
        return key >= 0 && key < KEYS;
    }

    private static boolean isPart(int part) {
        return part >= WINDOW && part <= SAFE;
    }

    private static boolean isRoom(int room) {
        return room >= 1 && room <= ROOM_MOST;
    }

    private static boolean isSetting(int what, int n) {
        switch (what) {
            case 0:
                return isRoom(n);
            case 1:
                return n >= 1 && n <= DOOR_MOST;
            case 2:
                return n >= 0 && n <= 99;
            case 3:
                return n >= 10 && n <= 20000;
            case 4:
                return n == 0 || n >= 10 && n <= 1000;
            case 5:
                return n >= 1 && n <= 16;
            default:
                return false;
        }
    }

    /** A row of numbers with a fixed most; each index is tested here, so that nobody else need do it. */
    private static final class Row {
        private final int[] cells;
        private int size;

        Row(int most) {
            cells = new int[most > 0 ? most : 0];
        }

        int size() {
            return size;
        }

        int get(int k) {
            return k >= 0 && k < size && k < cells.length ? cells[k] : NONE;
        }

        int last() {
            return get(size - 1);
        }

        void put(int k, int number) {
            if (k >= 0 && k < size && k < cells.length) {
                cells[k] = number;
            }
        }

        void append(int number) {
            if (size >= 0 && size < cells.length) {
                cells[size] = number;
                size++;
            }
        }

        /** In a full row the last one falls off. */
        void insert(int k, int number) {
            if (k < 0 || k > size || k >= cells.length) {
                return;
            }
            int top = size < cells.length ? size : cells.length - 1;
            if (top > k) {
                System.arraycopy(cells, k, cells, k + 1, top - k);
            }
            cells[k] = number;
            size = top + 1;
        }

        int removeAt(int k) {
            if (k < 0 || k >= size || size > cells.length) {
                return NONE;
            }
            int number = cells[k];
            if (k + 1 < size) {
                System.arraycopy(cells, k + 1, cells, k, size - k - 1);
            }
            size--;
            return number;
        }

        int removeLast() {
            int number = get(size - 1);
            cut(size - 1);
            return number;
        }

        int find(int number) {
            for (int k = 0; k < size && k < cells.length; k++) {
                if (cells[k] == number) {
                    return k;
                }
            }
            return NONE;
        }

        void cut(int n) {
            if (n >= 0 && n < size) {
                size = n;
            }
        }

        void copyFrom(Row other) {
            int n = other.size < cells.length ? other.size : cells.length;
            if (n > 0 && n <= other.cells.length) {
                System.arraycopy(other.cells, 0, cells, 0, n);
            }
            size = n;
        }
    }

    /** How often keys were asked for: counters, and a doorman who holds back those that come first. */
    private static final class Sketch {
        private static final int[] MIX = {-1640531535, -2048144789, -1028477379, 668265263};
        private static final int ROW_PLACES = 256;
        private static final int NOTE_BITS = 256;
        private static final int COUNTER_MOST = 15;

        private final int[] counters = new int[ROWS * ROW_PLACES];
        private final boolean[] notes = new boolean[NOTE_BITS];
        private boolean isDoorman = true;
        private int added;
        private int sample = 200;
        private int wide = 4;
        private int halvings;

        int places() {
            return 16 * wide;
        }

        int placeOf(int key, int row) {
            return mixed(key, row, 16 * wide);
        }

        private static int mixed(int key, int row, int places) {
            if (row < 0 || row >= MIX.length || places < 1) {
                return 0;
            }
            int x = (key + 1) * MIX[row];
            x = x ^ (x >>> 15);
            return (x & 2147483647) % places;
        }

        int counterOf(int row, int place) {
            int k = row * ROW_PLACES + place;
            return k >= 0 && k < counters.length ? counters[k] : 0;
        }

        int sharedRows(int key, int other) {
            int shared = 0;
            for (int row = 0; row < ROWS; row++) {
                if (placeOf(key, row) == placeOf(other, row)) {
                    shared++;
                }
            }
            return shared;
        }

        boolean hasNoted(int key) {
            return isDoorman && isNote(mixed(key, 0, NOTE_BITS)) && isNote(mixed(key, 1, NOTE_BITS));
        }

        private boolean isNote(int k) {
            return k >= 0 && k < notes.length && notes[k];
        }

        private void setNote(int k) {
            if (k >= 0 && k < notes.length) {
                notes[k] = true;
            }
        }

        int estimateOf(int key) {
            int least = COUNTER_MOST;
            for (int row = 0; row < ROWS; row++) {
                int counter = counterOf(row, mixed(key, row, 16 * wide));
                least = counter < least ? counter : least;
            }
            return hasNoted(key) ? least + 1 : least;
        }

        void add(int key) {
            if (isDoorman && !hasNoted(key)) {
                setNote(mixed(key, 0, NOTE_BITS));
                setNote(mixed(key, 1, NOTE_BITS));
            } else if (raiseCounters(key)) {
                added++;
            }
            if (added >= sample) {
                halveAll();
            }
        }

        private boolean raiseCounters(int key) {
            boolean raised = false;
            for (int row = 0; row < ROWS; row++) {
                int k = row * ROW_PLACES + mixed(key, row, 16 * wide);
                if (k >= 0 && k < counters.length && counters[k] < COUNTER_MOST) {
                    counters[k]++;
                    raised = true;
                }
            }
            return raised;
        }

        void halveAll() {
            for (int k = 0; k < counters.length; k++) {
                counters[k] = counters[k] / 2;
            }
            added = added / 2;
            halvings++;
            forgetNotes();
        }

        void forgetNotes() {
            for (int k = 0; k < notes.length; k++) {
                notes[k] = false;
            }
        }

        void setSample(int n) {
            sample = n;
            // As many times as an int has bits, ADDED is 0 for sure.
            for (int k = 0; k < 32 && added >= sample; k++) {
                halveAll();
            }
        }

        void setWide(int n) {
            wide = n;
            added = 0;
            for (int k = 0; k < counters.length; k++) {
                counters[k] = 0;
            }
            forgetNotes();
        }

        int bitsSet() {
            int bits = 0;
            for (int k = 0; k < notes.length; k++) {
                bits += notes[k] ? 1 : 0;
            }
            return bits;
        }

        int countersUsed() {
            int used = 0;
            for (int k = 0; k < counters.length; k++) {
                used += counters[k] != 0 ? 1 : 0;
            }
            return used;
        }

        int countersTogether() {
            int sum = 0;
            for (int k = 0; k < counters.length; k++) {
                sum += counters[k];
            }
            return sum;
        }

        void startLike(Sketch other) {
            setWide(other.wide);
            sample = other.sample;
            isDoorman = other.isDoorman;
            halvings = 0;
        }

        void copyFrom(Sketch other) {
            for (int k = 0; k < counters.length && k < other.counters.length; k++) {
                counters[k] = other.counters[k];
            }
            for (int k = 0; k < notes.length && k < other.notes.length; k++) {
                notes[k] = other.notes[k];
            }
            isDoorman = other.isDoorman;
            added = other.added;
            sample = other.sample;
            wide = other.wide;
            halvings = other.halvings;
        }
    }

    /** For how many keys each part is. */
    private static final class Shares {
        private int room = 10;
        private int door = 10;
        private int kept = 80;

        int windowFor() {
            int n = room * door / 100;
            return n < 1 ? 1 : n;
        }

        int mainFor() {
            return room - windowFor();
        }

        int safeFor() {
            return mainFor() * kept / 100;
        }

        int partFor(int part) {
            if (part == WINDOW) {
                return windowFor();
            }
            return part == SAFE ? safeFor() : mainFor() - safeFor();
        }

        void moveDoor(int step) {
            door += step;
            door = door < 1 ? 1 : door > DOOR_MOST ? DOOR_MOST : door;
        }

        void copyFrom(Shares other) {
            room = other.room;
            door = other.door;
            kept = other.kept;
        }
    }

    /** The door's climb by the hits of each period. */
    private static final class Climb {
        private static final int STEP = 5;

        private int period;
        private int asks;
        private int hits;
        private int hitsAhead;
        private boolean isDown;

        void begin(int n) {
            period = n;
            asks = 0;
            hits = 0;
            hitsAhead = 0;
            isDown = false;
        }

        boolean endsWith(boolean hit) {
            if (period < 1) {
                return false;
            }
            asks++;
            hits += hit ? 1 : 0;
            return asks >= period;
        }

        int nextStep() {
            if (hits < hitsAhead) {
                isDown = !isDown;
            }
            hitsAhead = hits;
            asks = 0;
            hits = 0;
            return isDown ? -STEP : STEP;
        }

        void copyFrom(Climb other) {
            period = other.period;
            asks = other.asks;
            hits = other.hits;
            hitsAhead = other.hitsAhead;
            isDown = other.isDown;
        }
    }

    /** What the latest miss led to. */
    private static final class Contest {
        private int candidate = NONE;
        private int victim = NONE;
        private int loser = NONE;
        private int won = NONE;

        void clear() {
            candidate = NONE;
            victim = NONE;
            loser = NONE;
            won = NONE;
        }

        void copyFrom(Contest other) {
            candidate = other.candidate;
            victim = other.victim;
            loser = other.loser;
            won = other.won;
        }
    }

    /** The law as a row of steps, each behind what it works on; without a text its parts are NONE. */
    private static final class Law {
        private static final int VALUES = 8;
        private static final int PLUS = 8;
        private static final int MINUS = 9;
        private static final int LESS = 10;
        private static final int LIKE = 11;
        private static final int MORE = 12;
        private static final int NOT = 13;
        private static final int AND = 14;
        private static final int OR = 15;
        // Steps from here on are written numbers.
        private static final int NUMBERS = 16;
        private static final int PARTS_MOST = 60;

        // Each step stands for one byte of the text at least.
        private final Row steps = new Row(TEXT_BYTES);
        private final Row stack = new Row(PARTS_MOST);
        private int parts = NONE;

        boolean isText() {
            return parts != NONE;
        }

        void remove() {
            steps.cut(0);
            parts = NONE;
        }

        void copyFrom(Law other) {
            steps.copyFrom(other.steps);
            parts = other.parts;
        }

        boolean holds(Row values) {
            stack.cut(0);
            for (int k = 0; k < steps.size(); k++) {
                int step = steps.get(k);
                if (step >= NUMBERS) {
                    stack.append(step - NUMBERS);
                } else if (step < VALUES) {
                    stack.append(values.get(step));
                } else if (step == NOT) {
                    stack.append(1 - stack.removeLast());
                } else {
                    int right = stack.removeLast();
                    stack.append(joined(step, stack.removeLast(), right));
                }
            }
            return stack.last() == 1;
        }

        private static int joined(int step, int left, int right) {
            switch (step) {
                case PLUS:
                    return left + right;
                case MINUS:
                    return left - right;
                case LESS:
                    return left < right ? 1 : 0;
                case LIKE:
                    return left == right ? 1 : 0;
                case MORE:
                    return left > right ? 1 : 0;
                case AND:
                    return left & right;
                default:
                    return left | right;
            }
        }
    }

    /** All that is kept and gone back to. */
    private static final class Desk {
        private final Shares shares = new Shares();
        private final Sketch sketch = new Sketch();
        private final Law law = new Law();
        private final Climb climb = new Climb();
        private final Contest contest = new Contest();
        // While one comes in there may be one more than there is room.
        private final Row window = new Row(ROOM_MOST + 1);
        private final Row tried = new Row(ROOM_MOST + 1);
        private final Row safe = new Row(ROOM_MOST + 1);
        private final Row gone = new Row(16);
        private final Row past = new Row(HISTORY_ASKS);
        private final Row values = new Row(Law.VALUES);
        private final Row sorted = new Row(ROOM_MOST + 1);
        private int asks;
        private int hits;
        private int outs;
        private int regrets;
        private int won;
        private int lost;

        int serve(int key) {
            sketch.add(key);
            asks++;
            remember(key);
            int part = partOf(key);
            if (part == 0) {
                comeIn(key);
                if (window.size() > shares.windowFor()) {
                    leaveWindow(window.removeLast());
                }
            } else {
                hits++;
                moveUp(part, key);
            }
            if (climb.endsWith(part != 0)) {
                shares.moveDoor(climb.nextStep());
                fit();
            }
            return part;
        }

        private void remember(int key) {
            if (past.size() >= HISTORY_ASKS) {
                past.removeAt(0);
            }
            past.append(key);
        }

        int partOf(int key) {
            if (window.find(key) != NONE) {
                return WINDOW;
            }
            if (tried.find(key) != NONE) {
                return TRIED;
            }
            return safe.find(key) != NONE ? SAFE : 0;
        }

        Row rowOf(int part) {
            if (part == WINDOW) {
                return window;
            }
            return part == TRIED ? tried : safe;
        }

        private void moveUp(int part, int key) {
            Row from = rowOf(part);
            from.removeAt(from.find(key));
            Row to = part == WINDOW ? window : safe;
            to.insert(0, key);
            if (safe.size() > shares.safeFor()) {
                tried.insert(0, safe.removeLast());
            }
        }

        private void comeIn(int key) {
            contest.clear();
            int k = gone.find(key);
            if (k != NONE) {
                gone.removeAt(k);
                regrets++;
            }
            window.insert(0, key);
        }

        private void leaveWindow(int candidate) {
            contest.candidate = candidate;
            int mainFor = shares.mainFor();
            if (tried.size() + safe.size() < mainFor) {
                tried.insert(0, candidate);
                return;
            }
            if (mainFor < 1) {
                contest.loser = candidate;
                goOut(candidate);
                return;
            }
            Row row = tried.size() > 0 ? tried : safe;
            contest.victim = row.last();
            if (beats(candidate, contest.victim)) {
                row.removeLast();
                tried.insert(0, candidate);
                contest.loser = contest.victim;
                contest.won = 1;
                won++;
            } else {
                contest.loser = candidate;
                contest.won = 0;
                lost++;
            }
            goOut(contest.loser);
        }

        private void goOut(int key) {
            gone.insert(0, key);
            outs++;
        }

        boolean beats(int candidate, int victim) {
            int ofCandidate = sketch.estimateOf(candidate);
            int ofVictim = sketch.estimateOf(victim);
            if (!law.isText()) {
                return ofCandidate > ofVictim;
            }
            values.cut(0);
            values.append(ofCandidate);
            values.append(ofVictim);
            values.append(hits);
            values.append(asks);
            values.append(outs);
            values.append(shares.door);
            values.append(shares.room);
            values.append(candidate % 10);
            return law.holds(values);
        }

        private void fit() {
            for (int n = 0; n <= ROOM_MOST && safe.size() > shares.safeFor(); n++) {
                tried.insert(0, safe.removeLast());
            }
            for (int n = 0; n <= ROOM_MOST && window.size() > shares.windowFor(); n++) {
                tried.insert(0, window.removeLast());
            }
            for (int n = 0; n <= ROOM_MOST && tried.size() + safe.size() > shares.mainFor(); n++) {
                dropColdest();
            }
        }

        private void dropColdest() {
            Row coldest = tried;
            int place = NONE;
            int least = 0;
            for (int n = 0; n < tried.size() + safe.size(); n++) {
                Row row = n < tried.size() ? tried : safe;
                int k = n < tried.size() ? tried.size() - 1 - n : tried.size() + safe.size() - 1 - n;
                int estimate = sketch.estimateOf(row.get(k));
                if (place == NONE || estimate < least) {
                    coldest = row;
                    place = k;
                    least = estimate;
                }
            }
            goOut(coldest.removeAt(place));
        }

        int setting(int what) {
            switch (what) {
                case 0:
                    return shares.room;
                case 1:
                    return shares.door;
                case 2:
                    return shares.kept;
                case 3:
                    return sketch.sample;
                case 4:
                    return climb.period;
                default:
                    return sketch.wide;
            }
        }

        void set(int what, int n) {
            switch (what) {
                case 0:
                    shares.room = n;
                    fit();
                    break;
                case 1:
                    shares.door = n;
                    fit();
                    break;
                case 2:
                    shares.kept = n;
                    fit();
                    break;
                case 3:
                    sketch.setSample(n);
                    break;
                case 4:
                    climb.begin(n);
                    break;
                default:
                    sketch.setWide(n);
                    break;
            }
        }

        Row hotKeys() {
            sorted.cut(0);
            for (int part = SAFE; part >= WINDOW; part--) {
                Row row = rowOf(part);
                for (int k = 0; k < row.size(); k++) {
                    sortIn(row.get(k));
                }
            }
            return sorted;
        }

        private void sortIn(int key) {
            int estimate = sketch.estimateOf(key);
            int k = 0;
            while (k < sorted.size() && sketch.estimateOf(sorted.get(k)) >= estimate) {
                k++;
            }
            sorted.insert(k, key);
        }

        int keysWith(int least) {
            int keys = 0;
            for (int part = WINDOW; part <= SAFE; part++) {
                Row row = rowOf(part);
                for (int k = 0; k < row.size(); k++) {
                    keys += sketch.estimateOf(row.get(k)) >= least ? 1 : 0;
                }
            }
            return keys;
        }

        void startLike(Desk other, int door) {
            shares.copyFrom(other.shares);
            shares.door = door;
            sketch.startLike(other.sketch);
            law.copyFrom(other.law);
            climb.begin(0);
            contest.clear();
            window.cut(0);
            tried.cut(0);
            safe.cut(0);
            gone.cut(0);
            past.cut(0);
            asks = 0;
            hits = 0;
            outs = 0;
            regrets = 0;
            won = 0;
            lost = 0;
        }

        void copyFrom(Desk other) {
            shares.copyFrom(other.shares);
            sketch.copyFrom(other.sketch);
            law.copyFrom(other.law);
            climb.copyFrom(other.climb);
            contest.copyFrom(other.contest);
            window.copyFrom(other.window);
            tried.copyFrom(other.tried);
            safe.copyFrom(other.safe);
            gone.copyFrom(other.gone);
            past.copyFrom(other.past);
            asks = other.asks;
            hits = other.hits;
            outs = other.outs;
            regrets = other.regrets;
            won = other.won;
            lost = other.lost;
        }
    }

    /** A text cut into words, numbers and signs: each fault is told at the first byte of one of them. */
    private static final class Tokens {
        // A sign's kind is its byte, the end's is NONE; all other kinds are above the bytes.
        private static final int VALUES = 256;
        private static final int AND = 264;
        private static final int OR = 265;
        private static final int NOT = 266;
        private static final int NUMBER = 267;
        private static final int WRONG = 268;
        // The words by their kinds from VALUES on, WORD_SIGNS each.
        private static final String WORDS = "cand vict hits asks out  door room key  and  or   not  ";
        private static final int WORD_SIGNS = 5;

        private final Row kinds = new Row(TEXT_BYTES);
        private final Row starts = new Row(TEXT_BYTES);
        private final Row numbers = new Row(TEXT_BYTES);
        private int textBytes;
        private int index;
        private int faultToken = NONE;

        void cutUp(Row text, int digitsMost) {
            kinds.cut(0);
            starts.cut(0);
            numbers.cut(0);
            textBytes = text.size();
            index = 0;
            faultToken = NONE;
            int k = 0;
            for (int n = 0; n < TEXT_BYTES && k < textBytes; n++) {
                k = cutOne(text, k, digitsMost);
            }
        }

        private int cutOne(Row text, int from, int digitsMost) {
            int sign = text.get(from);
            if (sign == 9 || sign == 10 || sign == 32) {
                return from + 1;
            }
            int behind = from + 1;
            if (isDigit(sign)) {
                behind = behindDigits(text, from);
                boolean fits = behind - from <= digitsMost;
                kinds.append(fits ? NUMBER : WRONG);
                numbers.append(fits ? numberOf(text, from, behind) : 0);
            } else if (isLetter(sign)) {
                behind = behindLetters(text, from);
                kinds.append(wordOf(text, from, behind));
                numbers.append(0);
            } else {
                kinds.append(sign);
                numbers.append(0);
            }
            starts.append(from);
            return behind;
        }

        private static int behindDigits(Row text, int from) {
            int k = from;
            while (k < text.size() && isDigit(text.get(k))) {
                k++;
            }
            return k;
        }

        private static int behindLetters(Row text, int from) {
            int k = from;
            while (k < text.size() && isLetter(text.get(k))) {
                k++;
            }
            return k;
        }

        private static int numberOf(Row text, int from, int behind) {
            int number = 0;
            for (int k = from; k < behind; k++) {
                number = number * 10 + text.get(k) - '0';
            }
            return number;
        }

        private static int wordOf(Row text, int from, int behind) {
            for (int k = 0; k + WORD_SIGNS <= WORDS.length(); k += WORD_SIGNS) {
                if (isWord(k, text, from, behind)) {
                    return VALUES + k / WORD_SIGNS;
                }
            }
            return WRONG;
        }

        private static boolean isWord(int word, Row text, int from, int behind) {
            for (int k = 0; k < WORD_SIGNS && word + k < WORDS.length(); k++) {
                int sign = from + k < behind ? text.get(from + k) : ' ';
                if (WORDS.charAt(word + k) != sign) {
                    return false;
                }
            }
            return behind - from < WORD_SIGNS;
        }

        private static boolean isLetter(int sign) {
            return sign >= 'a' && sign <= 'z';
        }

        private static boolean isDigit(int sign) {
            return sign >= '0' && sign <= '9';
        }

        /** Behind a fault nothing goes on. */
        int kind() {
            return failed() ? WRONG : kinds.get(index);
        }

        boolean takes(int kind) {
            boolean is = !failed() && kinds.get(index) == kind;
            index += is ? 1 : 0;
            return is;
        }

        void need(int kind) {
            if (failed() || kinds.get(index) != kind) {
                fail(index);
            } else {
                index++;
            }
        }

        int needNumber() {
            if (failed() || kinds.get(index) != NUMBER) {
                fail(index);
                return 0;
            }
            index++;
            return numbers.get(index - 1);
        }

        boolean failed() {
            return faultToken != NONE;
        }

        void fail(int token) {
            if (faultToken == NONE) {
                faultToken = token;
            }
        }

        int faultByte() {
            return faultToken < starts.size() ? starts.get(faultToken) : textBytes;
        }
    }

    /** Reads the text of a law into a draft, so that a wrong one leaves the desk's law alone. */
    private static final class LawReader {
        private static final int BRACKETS_MOST = 8;
        private static final int DIGITS_MOST = 4;

        private final Tokens tokens = new Tokens();
        private final Law draft = new Law();

        int read(Row tape) {
            tokens.cutUp(tape, DIGITS_MOST);
            draft.steps.cut(0);
            draft.parts = 0;
            readEither(0);
            tokens.need(NONE);
            return tokens.faultByte();
        }

        private void readEither(int depth) {
            readAll(depth);
            for (int n = 0; n < TEXT_BYTES && tokens.takes(Tokens.OR); n++) {
                readAll(depth);
                draft.steps.append(Law.OR);
            }
        }

        private void readAll(int depth) {
            readAtom(depth);
            for (int n = 0; n < TEXT_BYTES && tokens.takes(Tokens.AND); n++) {
                readAtom(depth);
                draft.steps.append(Law.AND);
            }
        }

        private void readAtom(int depth) {
            boolean isNot = false;
            for (int n = 0; n < TEXT_BYTES && tokens.takes(Tokens.NOT); n++) {
                isNot = !isNot;
            }
            if (tokens.kind() == '(' && depth >= BRACKETS_MOST) {
                tokens.fail(tokens.index);
            } else if (tokens.takes('(')) {
                readEither(depth + 1);
                tokens.need(')');
            } else {
                readSum();
                int step = readSign();
                readSum();
                draft.steps.append(step);
            }
            if (isNot) {
                draft.steps.append(Law.NOT);
            }
        }

        private int readSign() {
            if (tokens.takes('<')) {
                return Law.LESS;
            }
            if (tokens.takes('>')) {
                return Law.MORE;
            }
            tokens.need('=');
            return Law.LIKE;
        }

        private void readSum() {
            int step = NONE;
            for (int n = 0; n < TEXT_BYTES; n++) {
                int kind = tokens.kind();
                boolean isValue = kind >= Tokens.VALUES && kind < Tokens.VALUES + Law.VALUES;
                if (!isValue && kind != Tokens.NUMBER || draft.parts >= Law.PARTS_MOST) {
                    tokens.fail(tokens.index);
                    return;
                }
                draft.parts++;
                if (isValue) {
                    tokens.need(kind);
                    draft.steps.append(kind - Tokens.VALUES);
                } else {
                    draft.steps.append(Law.NUMBERS + tokens.needNumber());
                }
                if (step != NONE) {
                    draft.steps.append(step);
                }
                step = tokens.takes('+') ? Law.PLUS : tokens.takes('-') ? Law.MINUS : NONE;
                if (step == NONE) {
                    return;
                }
            }
        }
    }

    /** Reads the text of a trace into a row of keys, so that a wrong one asks for nothing. */
    private static final class TraceReader {
        private static final int BRACKETS_MOST = 6;
        private static final int DIGITS_MOST = 5;
        private static final int TIMES_MOST = 100;

        private final Tokens tokens = new Tokens();
        private final Row keys = new Row(TRACE_ASKS);

        int read(Row tape) {
            tokens.cutUp(tape, DIGITS_MOST);
            keys.cut(0);
            readItems(0);
            tokens.need(NONE);
            return tokens.faultByte();
        }

        private void readItems(int depth) {
            readItem(depth);
            for (int n = 0; n < TEXT_BYTES && (tokens.kind() == Tokens.NUMBER || tokens.kind() == '('); n++) {
                readItem(depth);
            }
        }

        private void readItem(int depth) {
            int start = tokens.index;
            if (tokens.kind() == '(' && depth >= BRACKETS_MOST) {
                tokens.fail(start);
            } else if (!tokens.takes('(')) {
                readRange(start);
            } else {
                int before = keys.size();
                readItems(depth + 1);
                tokens.need(')');
                repeatFrom(before, start);
            }
        }

        private void readRange(int start) {
            int first = tokens.needNumber();
            int last = first;
            if (tokens.takes('-')) {
                last = tokens.needNumber();
                failUnless(last >= first);
            }
            int times = readTimes();
            if (!fits((last - first + 1) * times, start)) {
                return;
            }
            for (int n = 0; n < times; n++) {
                for (int key = first; key <= last; key++) {
                    keys.append(key);
                }
            }
        }

        private int readTimes() {
            if (!tokens.takes('*')) {
                return 1;
            }
            int times = tokens.needNumber();
            failUnless(times >= 1 && times <= TIMES_MOST);
            return times;
        }

        /** A number that is out of bounds is told at itself, though it has been taken. */
        private void failUnless(boolean isRight) {
            if (!isRight) {
                tokens.fail(tokens.index - 1);
            }
        }

        private void repeatFrom(int before, int start) {
            int after = keys.size();
            int times = readTimes();
            if (!fits((after - before) * (times - 1), start)) {
                return;
            }
            for (int n = 1; n < times; n++) {
                for (int k = before; k < after; k++) {
                    keys.append(keys.get(k));
                }
            }
        }

        private boolean fits(int more, int start) {
            if (keys.size() + more > TRACE_ASKS) {
                tokens.fail(start);
            }
            return !tokens.failed();
        }
    }

    /** What can be told of the latest asks alone. */
    private static final class Lookback {
        private final Row there = new Row(HISTORY_ASKS);
        private final Row depths = new Row(HISTORY_ASKS);
        private final Row dues = new Row(HISTORY_ASKS);

        /**
         * How deep each key lay in one row without a bound: a row of ROOM keys holds just its first ROOM ones,
         * so one pass tells the hits of every room.
         */
        void measure(Row past) {
            there.cut(0);
            depths.cut(0);
            for (int k = 0; k < past.size(); k++) {
                int key = past.get(k);
                int depth = there.find(key);
                depths.append(depth);
                there.removeAt(depth);
                there.insert(0, key);
            }
        }

        int plainHits(int room) {
            int hits = 0;
            for (int k = 0; k < depths.size(); k++) {
                int depth = depths.get(k);
                hits += depth != NONE && depth < room ? 1 : 0;
            }
            return hits;
        }

        int idealHits(Row past, int room) {
            there.cut(0);
            dues.cut(0);
            int hits = 0;
            for (int k = 0; k < past.size(); k++) {
                int key = past.get(k);
                int due = nextAsk(past, k);
                int found = there.find(key);
                if (found != NONE) {
                    hits++;
                    dues.put(found, due);
                } else {
                    there.append(key);
                    dues.append(due);
                }
                if (there.size() > room) {
                    int latest = latestDue();
                    there.removeAt(latest);
                    dues.removeAt(latest);
                }
            }
            return hits;
        }

        private static int nextAsk(Row past, int from) {
            for (int k = from + 1; k < past.size(); k++) {
                if (past.get(k) == past.get(from)) {
                    return k;
                }
            }
            return HISTORY_ASKS;
        }

        private int latestDue() {
            int latest = 0;
            for (int k = 1; k < dues.size(); k++) {
                boolean isLater = dues.get(k) > dues.get(latest)
                    || dues.get(k) == dues.get(latest) && there.get(k) > there.get(latest);
                latest = isLater ? k : latest;
            }
            return latest;
        }

        int timesOf(Row past, int key) {
            int times = 0;
            for (int k = 0; k < past.size(); k++) {
                times += past.get(k) == key ? 1 : 0;
            }
            return times;
        }

        int commonest(Row past) {
            int common = NONE;
            int most = 0;
            for (int k = 0; k < past.size(); k++) {
                int key = past.get(k);
                int times = timesOf(past, key);
                if (times > most || times == most && key < common) {
                    common = key;
                    most = times;
                }
            }
            return common;
        }

        int unlikeKeys(Row past) {
            int unlike = 0;
            for (int k = 0; k < past.size(); k++) {
                unlike += askAhead(past, k) == NONE ? 1 : 0;
            }
            return unlike;
        }

        int longestUnlike(Row past) {
            int most = 0;
            int start = 0;
            for (int k = 0; k < past.size(); k++) {
                start = Math.max(start, askAhead(past, k) + 1);
                most = Math.max(most, k - start + 1);
            }
            return most;
        }

        int widestGap(Row past) {
            int widest = NONE;
            for (int k = 0; k < past.size(); k++) {
                int ahead = askAhead(past, k);
                if (ahead != NONE) {
                    widest = Math.max(widest, k - ahead - 1);
                }
            }
            return widest;
        }

        /** The nearest ask ahead for the same key. */
        private static int askAhead(Row past, int from) {
            for (int k = from - 1; k >= 0; k--) {
                if (past.get(k) == past.get(from)) {
                    return k;
                }
            }
            return NONE;
        }

        void writeTo(Row written, Row past) {
            int k = 0;
            for (int n = 0; n < HISTORY_ASKS && k < past.size(); n++) {
                if (k > 0) {
                    written.append(' ');
                }
                writeNumber(written, past.get(k));
                int same = runFrom(past, k, 0);
                int up = runFrom(past, k, 1);
                if (same > 1) {
                    written.append('*');
                    writeNumber(written, same);
                    k += same;
                } else if (up > 1) {
                    written.append('-');
                    writeNumber(written, past.get(k) + up - 1);
                    k += up;
                } else {
                    k++;
                }
            }
        }

        private static int runFrom(Row past, int from, int step) {
            int n = 1;
            while (from + n < past.size() && past.get(from + n) == past.get(from) + n * step) {
                n++;
            }
            return n;
        }

        private static void writeNumber(Row written, int number) {
            for (int unit = 10000; unit > 0; unit /= 10) {
                if (number >= unit || unit == 1) {
                    written.append('0' + number / unit % 10);
                }
            }
        }
    }
}
