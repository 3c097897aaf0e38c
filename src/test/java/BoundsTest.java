import java.util.function.ToIntBiFunction;

/** Each number that a promise takes: at its bounds, just beyond them, far beyond; what a refused call changes. */
public final class BoundsTest extends Cases {
    public static void main(String[] args) {
        keys();
        others();
        settings();
        whats();
        indexes();
        anyNumbers();
        whichFirst();
        texts();
        finish();
    }

    /** Each of the bounds is taken, what is beyond is refused and changes nothing. */
    private static void bounds(String name, Class<?> due, int least, int most, Call call) {
        told(name + " " + least + " is taken", () -> call.on(new AdmissionDesk(), least));
        told(name + " " + most + " is taken", () -> call.on(new AdmissionDesk(), most));
        beyond(name, due, least - 1, most + 1, call);
    }

    private static void beyond(String name, Class<?> due, int below, int above, Call call) {
        refused(name + " " + below + " is refused, and nothing changes", due, x -> call.on(x, below));
        refused(name + " " + above + " is refused, and nothing changes", due, x -> call.on(x, above));
        refused(name + " far below is refused, and nothing changes", due, x -> call.on(x, Integer.MIN_VALUE));
        refused(name + " far above is refused, and nothing changes", due, x -> call.on(x, Integer.MAX_VALUE));
    }

    private static void keys() {
        bounds("promise 8, ask: KEY", ILLEGAL, 0, 99999, (x, n) -> x.ask(n));
        bounds("promise 9, where: KEY", ILLEGAL, 0, 99999, (x, n) -> x.where(n));
        bounds("promise 14, estimate: KEY", ILLEGAL, 0, 99999, (x, n) -> x.estimate(n));
        bounds("promise 15, place: KEY", ILLEGAL, 0, 99999, (x, n) -> x.place(n, 0));
        bounds("promise 17, meets: the one KEY", ILLEGAL, 0, 99999, (x, n) -> x.meets(n, 1));
        bounds("promise 17, meets: the other KEY", ILLEGAL, 0, 99999, (x, n) -> x.meets(1, n));
        bounds("promise 18, noted: KEY", ILLEGAL, 0, 99999, (x, n) -> x.noted(n));
        bounds("promise 20, wins: CANDIDATE", ILLEGAL, 0, 99999, (x, n) -> x.wins(n, 1));
        bounds("promise 20, wins: VICTIM", ILLEGAL, 0, 99999, (x, n) -> x.wins(1, n));
        bounds("promise 28, needed: the KEY", ILLEGAL, 0, 99999, (x, n) -> x.needed(n, 1));
        bounds("promise 28, needed: the other KEY", ILLEGAL, 0, 99999, (x, n) -> x.needed(1, n));
        bounds("promise 29, twin: KEY", ILLEGAL, 0, 99999, (x, n) -> x.twin(n));
        bounds("promise 32, asked: KEY", ILLEGAL, 0, 99999, (x, n) -> x.asked(n));
        told("terms 1, KEYS: 0 and 99999 are asked for as any other", () -> {
            AdmissionDesk x = open("");
            is(0, x.ask(0));
            is(0, x.ask(99999));
            is(1, x.where(99999));
            is(2, x.where(0));
            is(2, x.ask(0));
            is(1, x.ask(99999));
            is(2, x.estimate(0));
            is(2, x.estimate(99999));
            is(2, x.asked(0));
            is(2, x.asked(99999));
            history(x, 0, 99999, 0, 99999);
            is(99999, x.hot(1));
            is(0, x.hot(0));
        });
    }

    private static void others() {
        bounds("promise 15, place: ROW", ILLEGAL, 0, 3, (x, n) -> x.place(5, n));
        bounds("promise 16, counter: ROW", ILLEGAL, 0, 3, (x, n) -> x.counter(n, 5));
        bounds("promise 23, again: DOOR", ILLEGAL, 1, 99, (x, n) -> x.again(n));
        bounds("promise 25, plain: ROOM", ILLEGAL, 1, 64, (x, n) -> x.plain(n));
        bounds("promise 26, ideal: ROOM", ILLEGAL, 1, 64, (x, n) -> x.ideal(n));
        for (int wide : new int[] {1, 4, 15, 16}) {
            places(wide);
        }
        refused("promise 15, place: a KEY and a ROW that are none", ILLEGAL, x -> x.place(-1, 4));
        refused("promise 16, counter: a ROW and a PLACE that are none", ILLEGAL, x -> x.counter(4, 16));
        refused("promise 17, meets: two KEYS that are none", ILLEGAL, x -> x.meets(-1, 100000));
        refused("promise 20, wins: two KEYS that are none", ILLEGAL, x -> x.wins(-1, 100000));
        refused("promise 28, needed: two KEYS that are none", ILLEGAL, x -> x.needed(-1, 100000));
        told("terms 1, WIDE: 4 at first, PLACES 0 to 63", () -> {
            is(0, new AdmissionDesk().counter(3, 63));
            bad(ILLEGAL, () -> new AdmissionDesk().counter(3, 64));
            bad(ILLEGAL, () -> new AdmissionDesk().counter(0, -1));
        });
    }

    private static void places(int wide) {
        int most = 16 * wide - 1;
        String name = "promise 16, counter: WIDE " + wide;
        told(name + ", PLACES 0 and " + most + " are taken", () -> {
            AdmissionDesk x = new AdmissionDesk();
            x.tell(5, wide);
            for (int row = 0; row < 4; row++) {
                is(0, x.counter(row, 0));
                is(0, x.counter(row, most));
            }
        });
        for (int place : new int[] {-1, most + 1, 1024, Integer.MIN_VALUE, Integer.MAX_VALUE}) {
            told(name + ", PLACE " + place + " is refused, and nothing changes", () -> {
                AdmissionDesk x = busy();
                AdmissionDesk y = busy();
                x.tell(5, wide);
                y.tell(5, wide);
                for (int row = 0; row < 4; row++) {
                    int r = row;
                    bad(ILLEGAL, () -> x.counter(r, place));
                }
                alike(y, x);
            });
        }
    }

    private static void setting(int what, String name, int first, int least, int most, int counted) {
        String title = "promise 21, tell: " + name;
        told(title + " is " + first + " at first", () -> {
            AdmissionDesk x = new AdmissionDesk();
            is(first, x.count(counted));
            is(first, x.tell(what, least));
        });
        for (int n : new int[] {least, least + 1, most - 1, most}) {
            told(title + " " + n + " is taken and told back", () -> {
                AdmissionDesk x = new AdmissionDesk();
                is(first, x.tell(what, n));
                is(n, x.count(counted));
                is(n, x.tell(what, least));
            });
        }
        beyond(title, ILLEGAL, least - 1, most + 1, (x, n) -> x.tell(what, n));
    }

    private static void settings() {
        setting(0, "ROOM", 10, 1, 64, 8);
        setting(1, "DOOR", 10, 1, 99, 7);
        setting(2, "KEPT", 80, 0, 99, 9);
        setting(3, "SAMPLE", 200, 10, 20000, 10);
        setting(4, "PERIOD", 0, 10, 1000, 11);
        setting(5, "WIDE", 4, 1, 16, 12);
        told("promise 21, tell: PERIOD 0 is taken and told back", () -> {
            AdmissionDesk x = new AdmissionDesk();
            is(0, x.tell(4, 10));
            is(10, x.tell(4, 0));
            is(0, x.count(11));
            is(0, x.tell(4, 0));
        });
        refused("promise 21, tell: PERIOD 1 is refused", ILLEGAL, x -> x.tell(4, 1));
        refused("promise 21, tell: PERIOD -1 is refused", ILLEGAL, x -> x.tell(4, -1));
        refused("promise 21, tell: PERIOD -10 is refused", ILLEGAL, x -> x.tell(4, -10));
    }

    private static void whats() {
        bounds("promise 10, part: PART", MISSING, 1, 3, (x, n) -> x.part(n, 0));
        bounds("promise 10, part: what", MISSING, 0, 1, (x, n) -> x.part(1, n));
        bounds("promise 11, at: PART", MISSING, 1, 3, (x, n) -> x.at(n, 0));
        bounds("promise 12, latest: what", MISSING, 0, 3, (x, n) -> x.latest(n));
        beyond("promise 21, tell: what", MISSING, -1, 6, (x, n) -> x.tell(n, 10));
        bounds("promise 31, past: what", MISSING, 0, 4, (x, n) -> x.past(n));
        for (int part = 1; part <= 3; part++) {
            int p = part;
            refused("promise 10, part: what 2 of PART " + p + " is refused", MISSING, x -> x.part(p, 2));
            refused("promise 10, part: what -1 of PART " + p + " is refused", MISSING, x -> x.part(p, -1));
        }
        told("promise 39, count: 0 and 20 are told, -1, 21 and far beyond are NONE", () -> {
            AdmissionDesk x = shared(2, 50, 0, "1-4");
            is(4, x.count(0));
            is(2, x.count(20));
            is(NONE, x.count(-1));
            is(NONE, x.count(21));
            is(NONE, x.count(Integer.MIN_VALUE));
            is(NONE, x.count(Integer.MAX_VALUE));
        });
        leavesAlone("promise 39, count: another what changes nothing", x -> x.count(21));
    }

    /** There is no k below 0 and none behind the last one: NONE, and no exception. */
    private static void index(String name, int size, Call check) {
        told(name + ": k 0 and " + (size - 1) + " are there", () -> {
            check.on(busy(), 0);
            check.on(busy(), size - 1);
        });
        leavesAlone(name + ": looking it up changes nothing", x -> check.on(x, size));
    }

    private static void none(String name, int size, ToIntBiFunction<AdmissionDesk, Integer> look) {
        index(name, size, (x, k) -> is(k < size, look.applyAsInt(x, k) != NONE));
        for (int k : new int[] {-1, size, Integer.MIN_VALUE, Integer.MAX_VALUE}) {
            told(name + ": k " + k + " is NONE", () -> is(NONE, look.applyAsInt(busy(), k)));
        }
        told(name + ": k 0 of a new object is NONE", () -> is(NONE, look.applyAsInt(new AdmissionDesk(), 0)));
    }

    private static void indexes() {
        AdmissionDesk x = busy();
        x.write();
        none("promise 11, at: THE WINDOW", x.part(1, 0), (y, k) -> y.at(1, k));
        none("promise 11, at: TRIED", x.part(2, 0), (y, k) -> y.at(2, k));
        none("promise 11, at: SAFE", x.part(3, 0), (y, k) -> y.at(3, k));
        int gone = 0;
        while (x.out(gone) != NONE) {
            gone++;
        }
        none("promise 13, out", gone, AdmissionDesk::out);
        none("promise 30, history", x.count(17), AdmissionDesk::history);
        none("promise 33, hot", x.count(6), AdmissionDesk::hot);
        none("promise 36, octet", unkept().write(), AdmissionDesk::octet);
    }

    private static void anyNumbers() {
        int[] far = {Integer.MIN_VALUE, -1, 0, 1, Integer.MAX_VALUE};
        for (int n : far) {
            leavesAlone("promise 27, enough: any number changes nothing, " + n, x -> x.enough(n));
            leavesAlone("promise 34, heat: any number changes nothing, " + n, x -> x.heat(n));
        }
        leavesAlone("promise 23, again: a DOOR changes nothing", x -> x.again(50));
        leavesAlone("promise 24, best: changes nothing", x -> is(x.best(true), x.again(x.best(false))));
        leavesAlone("promise 20, wins: changes nothing", x -> x.wins(3, 4));
        leavesAlone("promise 25, plain: changes nothing", x -> x.plain(5));
        leavesAlone("promise 26, ideal: changes nothing", x -> x.ideal(5));
        leavesAlone("promise 28, needed: nothing stays", x -> x.needed(4, 40));
        leavesAlone("promise 28, needed: nothing stays of 20 that are too few", x -> is(NONE, x.needed(4, 4)));
        leavesAlone("promise 29, twin: changes nothing", x -> x.twin(4));
        leavesAlone("promise 31, past: changes nothing", x -> x.past(4));
    }

    private static void whichFirst() {
        refused("exceptions: tell, another what goes ahead of a number that is none", MISSING, x -> x.tell(6, -5));
        refused("exceptions: tell, a what below 0 goes ahead of a number that is none", MISSING, x -> x.tell(-1, 0));
        refused("exceptions: part, PART and what are none", MISSING, x -> x.part(4, 2));
        refused("exceptions: at, no such PART goes ahead of NONE", MISSING, x -> x.at(0, -1));
        told("promise 38, back: IllegalStateException, and nothing changes, if nothing was kept", () -> {
            AdmissionDesk x = unkept();
            bad(STATE, x::back);
            alike(unkept(), x);
            bad(STATE, new AdmissionDesk()::back);
        });
    }

    /** A text that is wrong: the tape is used up, the fault is told, and nothing else changes. */
    private static void texts() {
        told("promise 4, law: a wrong text changes the TAPE and fault() alone", () -> {
            AdmissionDesk x = busy();
            tape(x, "cand > vict and vict");
            bad(ILLEGAL, x::law);
            is(20, x.fault());
            is(false, x.end(1));
            is(4, x.count(18));
            emptied(x);
        });
        told("promise 6, trace: a wrong text changes the TAPE and fault() alone", () -> {
            AdmissionDesk x = busy();
            tape(x, "1-9 (3 4)*5 7 7*0");
            bad(ILLEGAL, x::trace);
            is(16, x.fault());
            is(false, x.end(1));
            emptied(x);
        });
        told("promise 6, trace: too many ASKS change the TAPE and fault() alone", () -> {
            AdmissionDesk x = busy();
            tape(x, "1-9 (1-400)*2");
            bad(ILLEGAL, x::trace);
            is(4, x.fault());
            emptied(x);
        });
        told("promise 4, law: a good text changes the TAPE, fault() and THE LAW alone", () -> {
            AdmissionDesk x = busy();
            AdmissionDesk y = busy();
            law(y, "1 = 1 or 1 = 2");
            tape(x, "2=2or 2=3");
            is(4, x.law());
            is(NONE, x.fault());
            is(false, x.end(1));
            alike(y, x);
        });
    }

    private static void emptied(AdmissionDesk x) {
        AdmissionDesk y = busy();
        y.end(0);
        alike(y, x, "fault");
    }
}
