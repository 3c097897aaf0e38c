import java.util.Random;
import java.util.function.IntSupplier;

/** Random runs of calls, each answer held against Model's. */
public final class ModelTest {
    private static final int METHODS = 39;
    // What later calls answer is free.
    private static final int CALLS = 512;

    private final Random random;
    private final StringBuilder calls = new StringBuilder();
    private AdmissionDesk desk = new AdmissionDesk();
    private Model model = new Model();
    private int keys;
    private int wrong;
    private int made;

    private ModelTest(long seed) {
        random = new Random(seed);
    }

    public static void main(String[] args) {
        int failed = 0;
        int runs = args.length > 0 ? Integer.parseInt(args[0]) : 2000;
        for (int kind = 0; kind < 4; kind++) {
            int bad = 0;
            for (int run = 0; run < runs; run++) {
                ModelTest test = new ModelTest(1000003L * kind + run);
                test.run(kind);
                bad += test.wrong > 0 ? 1 : 0;
                if (test.wrong > 0 && bad == 1) {
                    System.out.println(test.calls);
                }
            }
            System.out.println((bad == 0 ? "ok" : "FAILED") + " model, runs of kind " + kind);
            failed += bad;
        }
        System.exit(failed == 0 ? 0 : 1);
    }

    private void run(int kind) {
        keys = new int[] {8, 30, 150, 100000}[random.nextInt(4)];
        if (kind == 1) {
            // Much traffic at a settled desk, so that shares, climbs and contests are met often.
            both("tell 4", () -> desk.tell(4, 10), () -> model.tell(4, 10));
            int room = 1 + random.nextInt(64);
            both("tell 0 " + room, () -> desk.tell(0, room), () -> model.tell(0, room));
        }
        for (int n = 0; made < CALLS && wrong == 0; n++) {
            int roll = random.nextInt(100);
            if (kind == 1 && roll < 50) {
                text("trace", goodTrace());
            } else if (kind == 2 && roll < 60) {
                text("law", spoilt(goodLaw()));
            } else if (kind == 3 && roll < 60) {
                text("trace", spoilt(goodTrace()));
            } else if (roll < 70) {
                int key = key();
                both("ask " + key, () -> desk.ask(key), () -> model.ask(key));
            } else {
                anyCall(random.nextInt(METHODS));
            }
            if (n % 8 == 7) {
                state();
            } else {
                int w = random.nextInt(22);
                both("count " + w, () -> desk.count(w), () -> model.count(w));
            }
        }
    }

    /** What can be looked at without changing anything. */
    private void state() {
        for (int what = 0; what <= 21; what++) {
            int w = what;
            both("count " + w, () -> desk.count(w), () -> model.count(w));
        }
        for (int what = 0; what < 4; what++) {
            int w = what;
            both("latest " + w, () -> desk.latest(w), () -> model.latest(w));
        }
        for (int part = 1; part <= 3; part++) {
            int p = part;
            int k = random.nextInt(20);
            both("part " + p, () -> desk.part(p, 0), () -> model.part(p, 0));
            both("part " + p, () -> desk.part(p, 1), () -> model.part(p, 1));
            both("at " + p + " " + k, () -> desk.at(p, k), () -> model.at(p, k));
            both("at " + p + " 0", () -> desk.at(p, 0), () -> model.at(p, 0));
        }
        int k = random.nextInt(17);
        both("out " + k, () -> desk.out(k), () -> model.out(k));
        both("hot " + k, () -> desk.hot(k), () -> model.hot(k));
        both("fault", desk::fault, model::fault);
    }

    private void both(String call, IntSupplier mine, IntSupplier due) {
        made++;
        if (made > CALLS) {
            return;
        }
        String got = outcome(mine);
        String want = outcome(due);
        calls.append(call).append(" = ").append(got).append('\n');
        if (!got.equals(want)) {
            wrong++;
            calls.append("  due is ").append(want).append('\n');
        }
    }

    private static String outcome(IntSupplier call) {
        try {
            return "" + call.getAsInt();
        } catch (RuntimeException e) {
            return "throws." + e.getClass().getSimpleName();
        }
    }

    private int key() {
        int roll = random.nextInt(40);
        if (roll == 0) {
            return new int[] {-1, 100000, 99999, 0, Integer.MIN_VALUE, Integer.MAX_VALUE}[random.nextInt(6)];
        }
        return roll < 20 ? random.nextInt(Math.min(keys, 8)) : random.nextInt(keys);
    }

    private int number() {
        int roll = random.nextInt(20);
        if (roll == 0) {
            return new int[] {Integer.MIN_VALUE, Integer.MAX_VALUE, -1, 100, 1000000}[random.nextInt(5)];
        }
        return roll < 12 ? random.nextInt(20) - 2 : random.nextInt(110);
    }

    private int setting(int what) {
        int roll = random.nextInt(20);
        if (roll == 0) {
            return number();
        }
        switch (what) {
            case 0:
                return 1 + random.nextInt(roll < 10 ? 20 : 64);
            case 1:
                return 1 + random.nextInt(99);
            case 2:
                return random.nextInt(100);
            case 3:
                return 9 + random.nextInt(roll < 15 ? 60 : 20000);
            case 4:
                return roll < 5 ? 0 : 9 + random.nextInt(roll < 15 ? 30 : 1000);
            default:
                return 1 + random.nextInt(16);
        }
    }

    private void anyCall(int method) {
        int a = key();
        int b = key();
        int n = number();
        int m = random.nextInt(7) - 1;
        int p = random.nextInt(5);
        int e = setting(m);
        boolean is = random.nextBoolean();
        switch (method) {
            case 0:
                both("feed", () -> desk.feed(a, b, n, m, -p), () -> model.feed(a, b, n, m, -p));
                break;
            case 1:
                both("end " + n, () -> desk.end(n) ? 1 : 0, () -> model.end(n) ? 1 : 0);
                break;
            case 2:
                text("law", goodLaw());
                break;
            case 3:
                both("free", () -> desk.free() ? 1 : 0, () -> model.free() ? 1 : 0);
                break;
            case 4:
                text("trace", goodTrace());
                break;
            case 5:
                text("law", spoilt(goodLaw()));
                break;
            case 6:
                text("trace", spoilt(goodTrace()));
                break;
            case 7:
                both("where " + a, () -> desk.where(a), () -> model.where(a));
                break;
            case 8:
                both("part " + p + " " + m, () -> desk.part(p, m), () -> model.part(p, m));
                break;
            case 9:
                both("at " + p + " " + n, () -> desk.at(p, n), () -> model.at(p, n));
                break;
            case 10:
                both("latest " + m, () -> desk.latest(m), () -> model.latest(m));
                break;
            case 11:
                both("out " + n, () -> desk.out(n), () -> model.out(n));
                break;
            case 12:
                both("estimate " + a, () -> desk.estimate(a), () -> model.estimate(a));
                break;
            case 13:
                both("place " + a + " " + m, () -> desk.place(a, m), () -> model.place(a, m));
                break;
            case 14:
                both("counter " + m + " " + n, () -> desk.counter(m, n), () -> model.counter(m, n));
                break;
            case 15:
                both("meets " + a + " " + b, () -> desk.meets(a, b), () -> model.meets(a, b));
                break;
            case 16:
                both("noted " + a, () -> desk.noted(a) ? 1 : 0, () -> model.noted(a) ? 1 : 0);
                break;
            case 17:
                both("halve", desk::halve, model::halve);
                break;
            case 18:
                both("wins " + a + " " + b, () -> desk.wins(a, b) ? 1 : 0, () -> model.wins(a, b) ? 1 : 0);
                break;
            case 19:
            case 20:
                both("tell " + m + " " + e, () -> desk.tell(m, e), () -> model.tell(m, e));
                break;
            case 21:
                both("doorman " + is, () -> desk.doorman(is) ? 1 : 0, () -> model.doorman(is) ? 1 : 0);
                break;
            case 22:
                both("again " + n, () -> desk.again(n), () -> model.again(n));
                break;
            case 23:
                both("best " + is, () -> desk.best(is), () -> model.best(is));
                break;
            case 24:
                both("plain " + n, () -> desk.plain(n), () -> model.plain(n));
                break;
            case 25:
                both("ideal " + n, () -> desk.ideal(n), () -> model.ideal(n));
                break;
            case 26:
                both("enough " + n, () -> desk.enough(n), () -> model.enough(n));
                break;
            case 27:
                both("needed " + a + " " + b, () -> desk.needed(a, b), () -> model.needed(a, b));
                break;
            case 28:
                both("twin " + a, () -> desk.twin(a), () -> model.twin(a));
                break;
            case 29:
                both("history " + n, () -> desk.history(n), () -> model.history(n));
                break;
            case 30:
                both("past " + m, () -> desk.past(m), () -> model.past(m));
                break;
            case 31:
                both("asked " + a, () -> desk.asked(a), () -> model.asked(a));
                break;
            case 32:
                both("hot " + n, () -> desk.hot(n), () -> model.hot(n));
                break;
            case 33:
                both("heat " + n, () -> desk.heat(n), () -> model.heat(n));
                break;
            case 34:
                both("write", desk::write, model::write);
                for (int k = 0; k < 40; k++) {
                    int byteAt = k < 20 ? k : random.nextInt(620) - 1;
                    both("octet " + byteAt, () -> desk.octet(byteAt), () -> model.octet(byteAt));
                }
                break;
            case 35:
                both("octet " + n, () -> desk.octet(n), () -> model.octet(n));
                break;
            case 36:
                both("keep", desk::keep, model::keep);
                break;
            case 37:
                both("back", desk::back, model::back);
                break;
            default:
                both("count " + n, () -> desk.count(n), () -> model.count(n));
                break;
        }
    }

    private void text(String call, String text) {
        calls.append("text: ").append(text).append('\n');
        int[] n = new int[5];
        String cut = text.length() > 400 ? text.substring(0, 400) : text;
        both("end 0", () -> desk.end(0) ? 1 : 0, () -> model.end(0) ? 1 : 0);
        for (int k = 0; k < cut.length(); k += 20) {
            for (int i = 0; i < 20; i++) {
                n[i / 4] = n[i / 4] << 8 | (k + i < cut.length() ? cut.charAt(k + i) : 0);
            }
            both("feed", () -> desk.feed(n[0], n[1], n[2], n[3], n[4]),
                () -> model.feed(n[0], n[1], n[2], n[3], n[4]));
        }
        both("end", () -> desk.end(cut.length()) ? 1 : 0, () -> model.end(cut.length()) ? 1 : 0);
        if (call.equals("law")) {
            both("law", desk::law, model::law);
        } else {
            both("trace", desk::trace, model::trace);
        }
    }

    private String spoilt(String text) {
        String signs = "()<=>+-* \t\n09ax5c!\u0000\u00ff";
        StringBuilder b = new StringBuilder(text);
        for (int n = random.nextInt(3); n >= 0 && b.length() > 0; n--) {
            int k = random.nextInt(b.length());
            char sign = signs.charAt(random.nextInt(signs.length()));
            switch (random.nextInt(4)) {
                case 0:
                    b.setLength(k);
                    break;
                case 1:
                    b.deleteCharAt(k);
                    break;
                case 2:
                    b.insert(k, sign);
                    break;
                default:
                    b.setCharAt(k, sign);
                    break;
            }
        }
        return b.toString();
    }

    private String blank() {
        return new String[] {"", "", " ", "\t", "\n "}[random.nextInt(5)];
    }

    private String goodLaw() {
        return blank() + either(random.nextInt(10)) + blank();
    }

    private String either(int depth) {
        StringBuilder b = new StringBuilder(all(depth));
        for (int n = random.nextInt(3); n > 1; n--) {
            b.append(" or ").append(all(depth));
        }
        return b.toString();
    }

    private String all(int depth) {
        StringBuilder b = new StringBuilder(atom(depth));
        for (int n = random.nextInt(3); n > 1; n--) {
            b.append(" and ").append(atom(depth));
        }
        return b.toString();
    }

    private String atom(int depth) {
        String not = random.nextInt(4) == 0 ? "not " : "";
        if (depth > 0 && random.nextInt(5) > 0) {
            return not + "(" + blank() + either(depth - 1) + blank() + ")";
        }
        return not + sum() + blank() + "<=>".charAt(random.nextInt(3)) + blank() + sum();
    }

    private String sum() {
        StringBuilder b = new StringBuilder(part());
        int more = random.nextInt(60) == 0 ? 57 : random.nextInt(3);
        for (int n = 0; n < more; n++) {
            b.append(blank()).append(random.nextBoolean() ? '+' : '-').append(more > 9 ? "1" : part());
        }
        return b.toString();
    }

    private String part() {
        if (random.nextInt(3) == 0) {
            return "" + random.nextInt(random.nextInt(10) == 0 ? 20000 : 12);
        }
        String[] words = {"cand", "vict", "cand", "vict", "hits", "asks", "out", "door", "room", "key"};
        return words[random.nextInt(words.length)];
    }

    private String goodTrace() {
        return blank() + items(random.nextInt(8)) + blank();
    }

    private String items(int depth) {
        StringBuilder b = new StringBuilder(item(depth));
        for (int n = random.nextInt(4); n > 0; n--) {
            b.append(' ').append(item(depth));
        }
        return b.toString();
    }

    private String item(int depth) {
        String times = random.nextInt(3) == 0 ? blank() + "*" + blank() + times() : "";
        if (depth > 0 && random.nextInt(2) == 0) {
            return "(" + items(depth - 1) + blank() + ")" + times;
        }
        int key = Math.max(0, Math.min(99999, key()));
        if (random.nextInt(3) > 0) {
            return key + times;
        }
        int more = random.nextInt(10) == 0 ? 400 : 12;
        return key + blank() + "-" + blank() + (key + random.nextInt(more)) + times;
    }

    private int times() {
        return random.nextInt(15) == 0 ? random.nextInt(110) : 1 + random.nextInt(4);
    }
}
