import java.util.ArrayList;
import java.util.Arrays;
import java.util.HashSet;
import java.util.List;
import java.util.NoSuchElementException;
import java.util.Set;
import java.util.function.Consumer;

/** What the tests share: cases that tell their names, and short ways to a desk that is busy. */
abstract class Cases {
    static final int NONE = -1;
    static final Class<?> ILLEGAL = IllegalArgumentException.class;
    static final Class<?> MISSING = NoSuchElementException.class;
    static final Class<?> STATE = IllegalStateException.class;
    private static final Set<String> NAMES = new HashSet<>();
    private static int failures;
    private static boolean isGood;

    interface Call {
        void on(AdmissionDesk x, int n);
    }

    static void told(String name, Runnable test) {
        isGood = NAMES.add(name);
        try {
            test.run();
        } catch (RuntimeException e) {
            isGood = false;
            System.out.println(name + " threw " + e + " at line " + lineOf(e.getStackTrace()));
        }
        failures += isGood ? 0 : 1;
        System.out.println((isGood ? "ok " : "FAILED ") + name);
    }

    static void finish() {
        System.exit(failures == 0 ? 0 : 1);
    }

    private static int lineOf(StackTraceElement[] frames) {
        for (StackTraceElement f : frames) {
            if (f.getClassName().endsWith("Test")) {
                return f.getLineNumber();
            }
        }
        return NONE;
    }

    private static void wrong(String due, String got) {
        isGood = false;
        System.out.println("line " + lineOf(new Throwable().getStackTrace()) + ": due is " + due
            + ", answered " + got);
    }

    static void is(int due, int got) {
        if (got != due) {
            wrong("" + due, "" + got);
        }
    }

    static void is(boolean due, boolean got) {
        if (got != due) {
            wrong("" + due, "" + got);
        }
    }

    static void bad(Class<?> due, Runnable call) {
        Class<?> got = null;
        try {
            call.run();
        } catch (RuntimeException e) {
            got = e.getClass();
        }
        if (got != due) {
            wrong("" + due, "" + got);
        }
    }

    static void tape(AdmissionDesk x, String text) {
        x.end(0);
        for (int k = 0; k < text.length(); k += 20) {
            int[] n = new int[5];
            for (int i = 0; i < 20; i++) {
                n[i / 4] = n[i / 4] << 8 | (k + i < text.length() ? text.charAt(k + i) : 0);
            }
            x.feed(n[0], n[1], n[2], n[3], n[4]);
        }
        x.end(text.length());
    }

    static int trace(AdmissionDesk x, String text) {
        tape(x, text);
        return x.trace();
    }

    static int law(AdmissionDesk x, String text) {
        tape(x, text);
        return x.law();
    }

    static AdmissionDesk desk(String trace) {
        AdmissionDesk x = new AdmissionDesk();
        if (!trace.isEmpty()) {
            trace(x, trace);
        }
        return x;
    }

    /** Without a doorman an estimate is as high as the counters are, which is easier to tell. */
    static AdmissionDesk open(String trace) {
        AdmissionDesk x = new AdmissionDesk();
        x.doorman(false);
        if (!trace.isEmpty()) {
            trace(x, trace);
        }
        return x;
    }

    /** An open desk whose parts are for so many keys as ROOM, DOOR and KEPT tell. */
    static AdmissionDesk shared(int room, int door, int kept, String trace) {
        AdmissionDesk x = new AdmissionDesk();
        x.doorman(false);
        x.tell(0, room);
        x.tell(1, door);
        x.tell(2, kept);
        if (!trace.isEmpty()) {
            trace(x, trace);
        }
        return x;
    }

    static void counts(AdmissionDesk x, int... due) {
        for (int what = 0; what < due.length; what++) {
            is(due[what], x.count(what));
        }
    }

    static void row(AdmissionDesk x, int part, int... keys) {
        is(keys.length, x.part(part, 0));
        for (int k = 0; k < keys.length; k++) {
            is(keys[k], x.at(part, k));
        }
        is(NONE, x.at(part, keys.length));
    }

    static void isFor(AdmissionDesk x, int window, int tried, int safe) {
        is(window, x.part(1, 1));
        is(tried, x.part(2, 1));
        is(safe, x.part(3, 1));
    }

    static void latest(AdmissionDesk x, int candidate, int victim, int out, int won) {
        is(candidate, x.latest(0));
        is(victim, x.latest(1));
        is(out, x.latest(2));
        is(won, x.latest(3));
    }

    static void outs(AdmissionDesk x, int... keys) {
        for (int k = 0; k < keys.length; k++) {
            is(keys[k], x.out(k));
        }
        is(NONE, x.out(keys.length));
    }

    static void history(AdmissionDesk x, int... keys) {
        is(keys.length, x.count(17));
        for (int k = 0; k < keys.length; k++) {
            is(keys[k], x.history(k));
        }
        is(NONE, x.history(keys.length));
    }

    /** A desk with nothing as it was at first, but nothing kept. */
    static AdmissionDesk unkept() {
        AdmissionDesk x = new AdmissionDesk();
        x.tell(0, 6);
        x.tell(1, 34);
        x.tell(2, 60);
        x.tell(3, 24);
        x.tell(4, 15);
        x.tell(5, 1);
        law(x, "cand > vict or key = 3");
        trace(x, "(1-3 7-12 1 2)*3 40-44");
        x.write();
        tape(x, "1 x");
        bad(ILLEGAL, x::trace);
        tape(x, "12 13");
        return x;
    }

    /** A desk with nothing as it was at first. */
    static AdmissionDesk busy() {
        AdmissionDesk x = unkept();
        x.keep();
        for (int key : new int[] {3, 40, 3, 50, 51}) {
            x.ask(key);
        }
        return x;
    }

    /**
     * All that can be seen of a desk, and how it goes on: what is on its way to the next climb, on the tape, kept.
     * It takes fewer than 450 calls, and the desk is another one behind it.
     */
    static List<String> look(AdmissionDesk x) {
        List<String> seen = new ArrayList<>();
        see(seen, "fault", 1, k -> x.fault());
        see(seen, "count", 22, x::count);
        see(seen, "latest", 4, x::latest);
        for (int part = 1; part <= 3; part++) {
            int p = part;
            see(seen, "part " + p, 2, what -> x.part(p, what));
            see(seen, "at " + p, x.part(p, 0) + 1, k -> x.at(p, k));
        }
        see(seen, "out", 17, x::out);
        see(seen, "history", x.count(17) + 1, x::history);
        for (int row = 0; row < 4; row++) {
            int r = row;
            see(seen, "counter " + r, 16, place -> x.counter(r, place));
        }
        see(seen, "estimate", 15, x::estimate);
        see(seen, "noted", 15, key -> x.noted(key) ? 1 : 0);
        see(seen, "wins", 5, key -> x.wins(key, key + 1) ? 1 : 0);
        see(seen, "octet", 40, x::octet);
        see(seen, "ask", 20, n -> x.ask(n % 7));
        see(seen, "count behind asks", 12, x::count);
        see(seen, "tape", 1, k -> x.feed(0x20202020, 0x20202020, 0x20202020, 0x20202020, 0x20202020));
        see(seen, "trace", 1, k -> x.trace());
        see(seen, "history behind trace", 8, k -> x.history(x.count(17) - 1 - k));
        see(seen, "back", 1, k -> x.back());
        see(seen, "count behind back", 21, x::count);
        return seen;
    }

    private interface Look {
        int of(int n);
    }

    private static void see(List<String> seen, String name, int times, Look look) {
        StringBuilder b = new StringBuilder(name).append(':');
        for (int n = 0; n < times; n++) {
            b.append(' ').append(outcome(look, n));
        }
        seen.add(b.toString());
    }

    private static String outcome(Look look, int n) {
        try {
            return "" + look.of(n);
        } catch (RuntimeException e) {
            return "throws." + e.getClass().getSimpleName();
        }
    }

    /** Two desks look alike, but for what is named. */
    static void alike(AdmissionDesk due, AdmissionDesk got, String... but) {
        List<String> a = look(due);
        List<String> b = look(got);
        for (int k = 0; k < a.size(); k++) {
            String name = a.get(k).substring(0, a.get(k).indexOf(':'));
            if (!a.get(k).equals(b.get(k)) && !Arrays.asList(but).contains(name)) {
                wrong(a.get(k), b.get(k));
            }
        }
    }

    /** A call that is refused: it throws what is due, and all stays as it was. */
    static void refused(String name, Class<?> due, Consumer<AdmissionDesk> call) {
        told(name, () -> {
            AdmissionDesk x = busy();
            bad(due, () -> call.accept(x));
            alike(busy(), x);
        });
    }

    /** A call that is taken, and changes nothing. */
    static void leavesAlone(String name, Consumer<AdmissionDesk> call) {
        told(name, () -> {
            AdmissionDesk x = busy();
            call.accept(x);
            alike(busy(), x);
        });
    }
}
