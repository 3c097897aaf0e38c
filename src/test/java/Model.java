import java.util.ArrayList;
import java.util.BitSet;
import java.util.Comparator;
import java.util.HashMap;
import java.util.HashSet;
import java.util.List;
import java.util.Map;
import java.util.NoSuchElementException;
import java.util.function.ToIntFunction;

/** The document told once more, in the most naive words, to hold against AdmissionDesk. */
final class Model {
    static final int[] MIX = {-1640531535, -2048144789, -1028477379, 668265263};

    /** The first byte with which no such text goes on. */
    static final class Wrong extends RuntimeException {
        private static final long serialVersionUID = 1;

        final int at;

        Wrong(int at) {
            super(null, null, false, false);
            this.at = at;
        }
    }

    static final class State {
        int room = 10, door = 10, kept = 80, sample = 200, period = 0, wide = 4;
        int[][] counters = new int[4][256];
        boolean doorman = true;
        BitSet bits = new BitSet(256);
        int added, halvings, asks, hits, outs, regrets, won, lost;
        int periodAsks, periodHits, periodAhead, way = 1;
        int[] latest = {-1, -1, -1, -1};
        List<Integer> window = new ArrayList<>(), tried = new ArrayList<>(), safe = new ArrayList<>();
        List<Integer> out = new ArrayList<>(), history = new ArrayList<>();
        String law;

        State copy() {
            State c = new State();
            c.room = room;
            c.door = door;
            c.kept = kept;
            c.sample = sample;
            c.period = period;
            c.wide = wide;
            for (int r = 0; r < 4; r++) {
                c.counters[r] = counters[r].clone();
            }
            c.doorman = doorman;
            c.bits = (BitSet) bits.clone();
            c.added = added;
            c.halvings = halvings;
            c.asks = asks;
            c.hits = hits;
            c.outs = outs;
            c.regrets = regrets;
            c.won = won;
            c.lost = lost;
            c.periodAsks = periodAsks;
            c.periodHits = periodHits;
            c.periodAhead = periodAhead;
            c.way = way;
            c.latest = latest.clone();
            c.window = new ArrayList<>(window);
            c.tried = new ArrayList<>(tried);
            c.safe = new ArrayList<>(safe);
            c.out = new ArrayList<>(out);
            c.history = new ArrayList<>(history);
            c.law = law;
            return c;
        }

        int windowFor() {
            return Math.max(1, room * door / 100);
        }

        int mainFor() {
            return room - windowFor();
        }

        int safeFor() {
            return mainFor() * kept / 100;
        }

        boolean noted(int key) {
            return doorman && bits.get(place(key, 0, 256)) && bits.get(place(key, 1, 256));
        }

        int estimate(int key) {
            int least = 99;
            for (int r = 0; r < 4; r++) {
                least = Math.min(least, counters[r][place(key, r, 16 * wide)]);
            }
            return least + (noted(key) ? 1 : 0);
        }

        void halved() {
            for (int[] row : counters) {
                for (int i = 0; i < row.length; i++) {
                    row[i] >>= 1;
                }
            }
            added >>= 1;
            bits.clear();
            halvings++;
        }

        void counting(int key) {
            if (doorman && !noted(key)) {
                bits.set(place(key, 0, 256));
                bits.set(place(key, 1, 256));
            } else {
                boolean below = false;
                for (int r = 0; r < 4; r++) {
                    int p = place(key, r, 16 * wide);
                    if (counters[r][p] < 15) {
                        counters[r][p]++;
                        below = true;
                    }
                }
                if (below) {
                    added++;
                }
            }
            if (added >= sample) {
                halved();
            }
        }

        boolean wins(int candidate, int victim) {
            if (law == null) {
                return estimate(candidate) > estimate(victim);
            }
            Map<String, Integer> values = new HashMap<>();
            values.put("cand", estimate(candidate));
            values.put("vict", estimate(victim));
            values.put("hits", hits);
            values.put("asks", asks);
            values.put("out", outs);
            values.put("door", door);
            values.put("room", room);
            values.put("key", candidate % 10);
            return new LawText(law).whole().applyAsInt(values) == 1;
        }

        void goesOut(int key) {
            out.add(0, key);
            if (out.size() > 16) {
                out.remove(16);
            }
            outs++;
        }

        int part(int key) {
            return window.contains(key) ? 1 : tried.contains(key) ? 2 : safe.contains(key) ? 3 : 0;
        }

        int ask(int key) {
            counting(key);
            asks++;
            history.add(key);
            if (history.size() > 100) {
                history.remove(0);
            }
            int was = part(key);
            if (was == 1) {
                window.remove((Integer) key);
                window.add(0, key);
            } else if (was == 3) {
                safe.remove((Integer) key);
                safe.add(0, key);
            } else if (was == 2) {
                tried.remove((Integer) key);
                safe.add(0, key);
                if (safe.size() > safeFor()) {
                    tried.add(0, safe.remove(safe.size() - 1));
                }
            } else {
                miss(key);
            }
            hits += was == 0 ? 0 : 1;
            if (period > 0) {
                periodAsks++;
                periodHits += was == 0 ? 0 : 1;
                if (periodAsks == period) {
                    way = periodHits < periodAhead ? -way : way;
                    periodAhead = periodHits;
                    periodHits = 0;
                    periodAsks = 0;
                    door = Math.min(99, Math.max(1, door + 5 * way));
                    fitted();
                }
            }
            return was;
        }

        void miss(int key) {
            latest = new int[] {-1, -1, -1, -1};
            if (out.remove((Integer) key)) {
                regrets++;
            }
            window.add(0, key);
            if (window.size() <= windowFor()) {
                return;
            }
            int candidate = window.remove(window.size() - 1);
            latest[0] = candidate;
            if (tried.size() + safe.size() < mainFor()) {
                tried.add(0, candidate);
            } else if (mainFor() == 0) {
                latest[2] = candidate;
                goesOut(candidate);
            } else {
                List<Integer> row = tried.isEmpty() ? safe : tried;
                int victim = row.get(row.size() - 1);
                latest[1] = victim;
                if (wins(candidate, victim)) {
                    row.remove(row.size() - 1);
                    tried.add(0, candidate);
                    goesOut(victim);
                    won++;
                    latest[2] = victim;
                    latest[3] = 1;
                } else {
                    goesOut(candidate);
                    lost++;
                    latest[2] = candidate;
                    latest[3] = 0;
                }
            }
        }

        void fitted() {
            while (safe.size() > safeFor()) {
                tried.add(0, safe.remove(safe.size() - 1));
            }
            while (window.size() > windowFor()) {
                tried.add(0, window.remove(window.size() - 1));
            }
            while (tried.size() + safe.size() > mainFor()) {
                List<Integer> order = new ArrayList<>();
                for (int k = tried.size() - 1; k >= 0; k--) {
                    order.add(tried.get(k));
                }
                for (int k = safe.size() - 1; k >= 0; k--) {
                    order.add(safe.get(k));
                }
                order.sort(Comparator.comparingInt(this::estimate));
                Integer goes = order.get(0);
                tried.remove(goes);
                safe.remove(goes);
                goesOut(goes);
            }
        }
    }

    static int place(int key, int row, int places) {
        int x = (int) ((key + 1L) * MIX[row]);
        x ^= x >>> 15;
        return (x & 2147483647) % places;
    }

    /** A text read byte by byte. */
    static class Text {
        final String text;
        int at;

        Text(String text) {
            this.text = text;
        }

        char sign() {
            while (at < text.length() && "\t\n ".indexOf(text.charAt(at)) >= 0) {
                at++;
            }
            return at < text.length() ? text.charAt(at) : (char) 9999;
        }

        boolean skip(char sign) {
            if (sign() == sign) {
                at++;
                return true;
            }
            return false;
        }

        void must(char sign) {
            if (!skip(sign)) {
                throw new Wrong(at);
            }
        }

        boolean digitComes() {
            return sign() >= '0' && sign() <= '9';
        }

        String word() {
            sign();
            int to = at;
            while (to < text.length() && text.charAt(to) >= 'a' && text.charAt(to) <= 'z') {
                to++;
            }
            return text.substring(at, to);
        }

        boolean skipWord(String word) {
            if (word().equals(word)) {
                at += word.length();
                return true;
            }
            return false;
        }

        int number(int digits, int least, int most) {
            if (!digitComes()) {
                throw new Wrong(at);
            }
            int to = at;
            while (to < text.length() && text.charAt(to) >= '0' && text.charAt(to) <= '9') {
                to++;
            }
            String number = text.substring(at, to);
            if (number.length() > digits || Integer.parseInt(number) < least || Integer.parseInt(number) > most) {
                throw new Wrong(at);
            }
            at = to;
            return Integer.parseInt(number);
        }
    }

    static final class LawText extends Text {
        int parts;

        LawText(String text) {
            super(text);
        }

        ToIntFunction<Map<String, Integer>> whole() {
            ToIntFunction<Map<String, Integer>> c = either(0);
            if (sign() != (char) 9999) {
                throw new Wrong(at);
            }
            return c;
        }

        ToIntFunction<Map<String, Integer>> either(int depth) {
            ToIntFunction<Map<String, Integer>> left = all(depth);
            while (skipWord("or")) {
                ToIntFunction<Map<String, Integer>> before = left, right = all(depth);
                left = v -> Math.max(before.applyAsInt(v), right.applyAsInt(v));
            }
            return left;
        }

        ToIntFunction<Map<String, Integer>> all(int depth) {
            ToIntFunction<Map<String, Integer>> left = atom(depth);
            while (skipWord("and")) {
                ToIntFunction<Map<String, Integer>> before = left, right = atom(depth);
                left = v -> Math.min(before.applyAsInt(v), right.applyAsInt(v));
            }
            return left;
        }

        ToIntFunction<Map<String, Integer>> atom(int depth) {
            if (skipWord("not")) {
                ToIntFunction<Map<String, Integer>> inner = atom(depth);
                return v -> 1 - inner.applyAsInt(v);
            }
            if (sign() == '(') {
                if (depth == 8) {
                    throw new Wrong(at);
                }
                must('(');
                ToIntFunction<Map<String, Integer>> inner = either(depth + 1);
                must(')');
                return inner;
            }
            ToIntFunction<Map<String, Integer>> left = sum();
            char sign = sign();
            if (sign != '<' && sign != '=' && sign != '>') {
                throw new Wrong(at);
            }
            at++;
            ToIntFunction<Map<String, Integer>> right = sum();
            return v -> {
                int order = Integer.signum(Integer.compare(left.applyAsInt(v), right.applyAsInt(v)));
                return order == "<=>".indexOf(sign) - 1 ? 1 : 0;
            };
        }

        ToIntFunction<Map<String, Integer>> sum() {
            ToIntFunction<Map<String, Integer>> left = part();
            while (sign() == '+' || sign() == '-') {
                int way = sign() == '+' ? 1 : -1;
                at++;
                ToIntFunction<Map<String, Integer>> before = left, right = part();
                left = v -> before.applyAsInt(v) + way * right.applyAsInt(v);
            }
            return left;
        }

        ToIntFunction<Map<String, Integer>> part() {
            char sign = sign();
            if (sign == (char) 9999 || parts == 60) {
                throw new Wrong(at);
            }
            parts++;
            if (digitComes()) {
                int number = number(4, 0, 9999);
                return v -> number;
            }
            String word = word();
            if (!List.of("cand", "vict", "hits", "asks", "out", "door", "room", "key").contains(word)) {
                throw new Wrong(at);
            }
            at += word.length();
            return v -> v.get(word);
        }
    }

    static final class TraceText extends Text {
        TraceText(String text) {
            super(text);
        }

        List<Integer> whole() {
            List<Integer> asks = items(0, 0);
            if (sign() != (char) 9999) {
                throw new Wrong(at);
            }
            return asks;
        }

        /** ahead: how many asks come ahead of these in any case. */
        List<Integer> items(int depth, int ahead) {
            List<Integer> asks = new ArrayList<>();
            do {
                asks.addAll(item(depth, ahead + asks.size()));
            } while (digitComes() || sign() == '(');
            return asks;
        }

        List<Integer> item(int depth, int ahead) {
            sign();
            int start = at;
            List<Integer> once = new ArrayList<>();
            if (sign() == '(') {
                if (depth == 6) {
                    throw new Wrong(at);
                }
                must('(');
                once = items(depth + 1, ahead);
                must(')');
            } else {
                int first = number(5, 0, 99999);
                int last = skip('-') ? number(5, first, 99999) : first;
                for (int key = first; key <= last; key++) {
                    once.add(key);
                }
            }
            int times = skip('*') ? number(5, 1, 100) : 1;
            if (ahead + (long) once.size() * times > 500) {
                throw new Wrong(start);
            }
            List<Integer> all = new ArrayList<>();
            for (int n = 0; n < times; n++) {
                all.addAll(once);
            }
            return all;
        }
    }

    State s = new State();
    State keptState;
    StringBuilder tape = new StringBuilder();
    String written = "";
    int fault = -1;

    static void key(int... keys) {
        for (int key : keys) {
            among(key, 0, 99999);
        }
    }

    static void among(int n, int least, int most) {
        if (n < least || n > most) {
            throw new IllegalArgumentException();
        }
    }

    static void what(int what, int least, int most) {
        if (what < least || what > most) {
            throw new NoSuchElementException();
        }
    }

    static int kth(List<Integer> row, int k) {
        return k >= 0 && k < row.size() ? row.get(k) : -1;
    }

    int feed(int... numbers) {
        if (tape.length() + 20 > 400) {
            return -1;
        }
        for (int number : numbers) {
            for (byte b : java.nio.ByteBuffer.allocate(4).putInt(number).array()) {
                tape.append((char) (b & 255));
            }
        }
        return tape.length();
    }

    boolean end(int n) {
        if (n < 0 || tape.length() < n) {
            return false;
        }
        tape.setLength(n);
        return true;
    }

    int law() {
        String text = tape.toString();
        tape.setLength(0);
        LawText reader = new LawText(text);
        try {
            reader.whole();
        } catch (Wrong w) {
            fault = w.at;
            throw new IllegalArgumentException();
        }
        fault = -1;
        s.law = text;
        return reader.parts;
    }

    boolean free() {
        boolean was = s.law != null;
        s.law = null;
        return was;
    }

    int trace() {
        String text = tape.toString();
        tape.setLength(0);
        List<Integer> asks;
        try {
            asks = new TraceText(text).whole();
        } catch (Wrong w) {
            fault = w.at;
            throw new IllegalArgumentException();
        }
        fault = -1;
        int hits = 0;
        for (int key : asks) {
            hits += s.ask(key) == 0 ? 0 : 1;
        }
        return hits;
    }

    int fault() {
        return fault;
    }

    int ask(int key) {
        key(key);
        return s.ask(key);
    }

    int where(int key) {
        key(key);
        return s.part(key);
    }

    List<Integer> row(int part) {
        return List.of(s.window, s.tried, s.safe).get(part - 1);
    }

    int part(int part, int what) {
        what(part, 1, 3);
        what(what, 0, 1);
        int[] most = {s.windowFor(), s.mainFor() - s.safeFor(), s.safeFor()};
        return what == 0 ? row(part).size() : most[part - 1];
    }

    int at(int part, int k) {
        what(part, 1, 3);
        return kth(row(part), k);
    }

    int latest(int what) {
        what(what, 0, 3);
        return s.latest[what];
    }

    int out(int k) {
        return kth(s.out, k);
    }

    int estimate(int key) {
        key(key);
        return s.estimate(key);
    }

    int place(int key, int row) {
        key(key);
        among(row, 0, 3);
        return place(key, row, 16 * s.wide);
    }

    int counter(int row, int place) {
        among(row, 0, 3);
        among(place, 0, 16 * s.wide - 1);
        return s.counters[row][place];
    }

    int meets(int key, int other) {
        key(key, other);
        int n = 0;
        for (int r = 0; r < 4; r++) {
            n += place(key, r, 16 * s.wide) == place(other, r, 16 * s.wide) ? 1 : 0;
        }
        return n;
    }

    boolean noted(int key) {
        key(key);
        return s.noted(key);
    }

    int halve() {
        s.halved();
        return s.added;
    }

    boolean wins(int candidate, int victim) {
        key(candidate, victim);
        return s.wins(candidate, victim);
    }

    int tell(int what, int n) {
        what(what, 0, 5);
        int was;
        switch (what) {
            case 0 -> {
                among(n, 1, 64);
                was = s.room;
                s.room = n;
                s.fitted();
            }
            case 1 -> {
                among(n, 1, 99);
                was = s.door;
                s.door = n;
                s.fitted();
            }
            case 2 -> {
                among(n, 0, 99);
                was = s.kept;
                s.kept = n;
                s.fitted();
            }
            case 3 -> {
                among(n, 10, 20000);
                was = s.sample;
                s.sample = n;
                while (s.added >= n) {
                    s.halved();
                }
            }
            case 4 -> {
                if (n != 0) {
                    among(n, 10, 1000);
                }
                was = s.period;
                s.period = n;
                s.periodAsks = 0;
                s.periodHits = 0;
                s.periodAhead = 0;
                s.way = 1;
            }
            default -> {
                among(n, 1, 16);
                was = s.wide;
                s.wide = n;
                s.counters = new int[4][256];
                s.added = 0;
                s.bits.clear();
            }
        }
        return was;
    }

    boolean doorman(boolean is) {
        boolean isNew = s.doorman != is;
        if (isNew) {
            s.doorman = is;
            s.bits.clear();
        }
        return isNew;
    }

    int again(int door) {
        among(door, 1, 99);
        State desk = new State();
        desk.room = s.room;
        desk.kept = s.kept;
        desk.wide = s.wide;
        desk.sample = s.sample;
        desk.doorman = s.doorman;
        desk.law = s.law;
        desk.door = door;
        for (int key : s.history) {
            desk.ask(key);
        }
        return desk.hits;
    }

    int best(boolean hits) {
        int best = 0;
        int most = -1;
        for (int door : new int[] {1, 10, 20, 30, 40, 50, 60, 70, 80, 90}) {
            if (again(door) > most) {
                best = door;
                most = again(door);
            }
        }
        return hits ? most : best;
    }

    int plain(int room) {
        among(room, 1, 64);
        List<Integer> row = new ArrayList<>();
        int hits = 0;
        for (Integer key : s.history) {
            hits += row.remove(key) ? 1 : 0;
            row.add(0, key);
            if (row.size() > room) {
                row.remove(room);
            }
        }
        return hits;
    }

    int ideal(int room) {
        among(room, 1, 64);
        List<Integer> there = new ArrayList<>();
        int hits = 0;
        for (int k = 0; k < s.history.size(); k++) {
            if (there.contains(s.history.get(k))) {
                hits++;
                continue;
            }
            there.add(s.history.get(k));
            if (there.size() > room) {
                List<Integer> later = s.history.subList(k + 1, s.history.size());
                ToIntFunction<Integer> due = key -> later.contains(key) ? later.indexOf(key) : 1000;
                there.sort(Comparator.comparingInt(due).thenComparing(Comparator.naturalOrder()));
                there.remove(room);
            }
        }
        return hits;
    }

    int enough(int hits) {
        for (int room = 1; room <= 64; room++) {
            if (plain(room) >= hits) {
                return room;
            }
        }
        return -1;
    }

    int needed(int key, int victim) {
        key(key, victim);
        State trial = s.copy();
        for (int n = 0; n <= 20; n++) {
            if (trial.wins(key, victim)) {
                return n;
            }
            trial.counting(key);
        }
        return -1;
    }

    int twin(int key) {
        key(key);
        int twin = -1;
        for (int other = 999; other >= 0; other--) {
            if (other != key && (twin < 0 || meets(key, other) >= meets(key, twin))) {
                twin = other;
            }
        }
        return twin;
    }

    int history(int k) {
        return kth(s.history, k);
    }

    int past(int what) {
        what(what, 0, 4);
        List<Integer> h = s.history;
        int most = 0, mostKey = -1, longest = 0, gap = -1;
        for (int key : new java.util.TreeSet<>(h)) {
            if (asked(key) > most) {
                most = asked(key);
                mostKey = key;
            }
        }
        for (int from = 0; from < h.size(); from++) {
            for (int to = from + 1; to <= h.size(); to++) {
                List<Integer> stretch = h.subList(from, to);
                if (new HashSet<>(stretch).size() == stretch.size()) {
                    longest = Math.max(longest, stretch.size());
                }
            }
            int next = h.subList(from + 1, h.size()).indexOf(h.get(from));
            gap = Math.max(gap, next);
        }
        return new int[] {new HashSet<>(h).size(), mostKey, most, longest, gap}[what];
    }

    int asked(int key) {
        key(key);
        return java.util.Collections.frequency(s.history, key);
    }

    List<Integer> hotKeys() {
        List<Integer> all = new ArrayList<>(s.safe);
        all.addAll(s.tried);
        all.addAll(s.window);
        all.sort(Comparator.comparingInt(key -> -s.estimate(key)));
        return all;
    }

    int hot(int k) {
        return kth(hotKeys(), k);
    }

    int heat(int n) {
        return (int) hotKeys().stream().filter(key -> s.estimate(key) >= n).count();
    }

    int write() {
        List<String> words = new ArrayList<>();
        List<Integer> rest = new ArrayList<>(s.history);
        while (!rest.isEmpty()) {
            int key = rest.remove(0);
            int n = 1;
            if (!rest.isEmpty() && rest.get(0) == key) {
                while (!rest.isEmpty() && rest.get(0) == key) {
                    rest.remove(0);
                    n++;
                }
                words.add(key + "*" + n);
            } else if (!rest.isEmpty() && rest.get(0) == key + 1) {
                while (!rest.isEmpty() && rest.get(0) == key + n) {
                    rest.remove(0);
                    n++;
                }
                words.add(key + "-" + (key + n - 1));
            } else {
                words.add("" + key);
            }
        }
        written = String.join(" ", words);
        return written.length();
    }

    int octet(int k) {
        return k >= 0 && k < written.length() ? written.charAt(k) : -1;
    }

    int keep() {
        keptState = s.copy();
        return s.asks;
    }

    int back() {
        if (keptState == null) {
            throw new IllegalStateException();
        }
        s = keptState.copy();
        return s.asks;
    }

    int count(int what) {
        int set = 0;
        int sum = 0;
        for (int[] row : s.counters) {
            for (int counter : row) {
                set += counter == 0 ? 0 : 1;
                sum += counter;
            }
        }
        int parts = -1;
        if (s.law != null) {
            LawText reader = new LawText(s.law);
            reader.whole();
            parts = reader.parts;
        }
        int[] all = {s.asks, s.hits, s.outs, s.regrets, s.added, s.halvings,
            s.window.size() + s.tried.size() + s.safe.size(), s.door, s.room, s.kept, s.sample, s.period, s.wide,
            s.doorman ? 1 : 0, s.bits.cardinality(), set, sum, s.history.size(), parts, s.won, s.lost};
        return what >= 0 && what < all.length ? all[what] : -1;
    }
}
