/** For each promise of the document: what it answers, its edges, its wrong inputs. */
public final class PromiseTest extends Cases {
    public static void main(String[] args) {
        Runnable[] promises = {
            PromiseTest::aNewObject, PromiseTest::feed, PromiseTest::end, PromiseTest::law, PromiseTest::free,
            PromiseTest::trace, PromiseTest::fault, PromiseTest::ask, PromiseTest::where, PromiseTest::part,
            PromiseTest::at, PromiseTest::latest, PromiseTest::out, PromiseTest::estimate, PromiseTest::place,
            PromiseTest::counter, PromiseTest::meets, PromiseTest::noted, PromiseTest::halve, PromiseTest::wins,
            PromiseTest::tell, PromiseTest::doorman, PromiseTest::again, PromiseTest::best, PromiseTest::plain,
            PromiseTest::ideal, PromiseTest::enough, PromiseTest::needed, PromiseTest::twin, PromiseTest::historyRow,
            PromiseTest::past, PromiseTest::asked, PromiseTest::hot, PromiseTest::heat, PromiseTest::write,
            PromiseTest::octet, PromiseTest::keep, PromiseTest::back, PromiseTest::count};
        for (int k = 0; k < promises.length; k++) {
            told("promise " + (k + 1), promises[k]);
        }
        told("terms: counting", PromiseTest::counting);
        told("terms: contests", PromiseTest::contests);
        told("terms: climbing", PromiseTest::climbing);
        told("terms: fitted", PromiseTest::fitted);
        told("terms: what a law says", PromiseTest::lawMeaning);
        told("terms: faults of a law", PromiseTest::lawFaults);
        told("terms: faults of a trace", PromiseTest::traceFaults);
        told("terms: a call that throws changes nothing", PromiseTest::throwsLeaveAlone);
        finish();
    }

    private static void lawFault(int due, String text) {
        AdmissionDesk x = new AdmissionDesk();
        tape(x, text);
        bad(ILLEGAL, x::law);
        is(due, x.fault());
        is(NONE, x.count(18));
    }

    private static void traceFault(int due, String text) {
        AdmissionDesk x = new AdmissionDesk();
        tape(x, text);
        bad(ILLEGAL, x::trace);
        is(due, x.fault());
        is(0, x.count(0));
    }

    private static void aNewObject() {
        AdmissionDesk x = new AdmissionDesk();
        is(-1, AdmissionDesk.NONE);
        counts(x, 0, 0, 0, 0, 0, 0, 0, 10, 10, 80, 200, 0, 4, 1, 0, 0, 0, 0, NONE, 0, 0);
        row(x, 1);
        row(x, 2);
        row(x, 3);
        is(NONE, x.out(0));
        is(NONE, x.history(0));
        for (int what = 0; what < 4; what++) {
            is(NONE, x.latest(what));
        }
        is(0, x.estimate(7));
        is(0, new AdmissionDesk().count(0));
    }

    private static void feed() {
        AdmissionDesk x = new AdmissionDesk();
        is(20, x.feed(0x312a3220, 0x33202020, 0x20202020, 0x20202020, 0x34202035));
        is(1, x.trace());
        is(1, x.history(0));
        is(1, x.history(1));
        is(3, x.history(2));
        is(4, x.history(3));
        is(5, x.history(4));
        is(NONE, x.history(5));
        for (int n = 20; n <= 400; n += 20) {
            is(n, x.feed(-1, 0, 0, 0, 0));
        }
        is(NONE, x.feed(0, 0, 0, 0, 0));
        is(true, x.end(400));
        is(true, x.end(381));
        is(NONE, x.feed(0, 0, 0, 0, 0));
        is(true, x.end(380));
        is(400, x.feed(0, 0, 0, 0, 0));
        bad(ILLEGAL, x::law);
        is(0, x.fault());
        is(20, x.feed(0x31203220, 0xff000000, 0, 0, 0));
        bad(ILLEGAL, x::trace);
        is(4, x.fault());
    }

    private static void end() {
        AdmissionDesk x = new AdmissionDesk();
        is(true, x.end(0));
        is(false, x.end(1));
        is(false, x.end(-1));
        is(false, x.end(Integer.MIN_VALUE));
        x.feed(0x31323334, 0, 0, 0, 0);
        is(false, x.end(21));
        is(true, x.end(20));
        is(true, x.end(2));
        is(false, x.end(3));
        is(22, x.feed(0x33202020, 0x20202020, 0x20202020, 0x20202020, 0x20202020));
        is(0, x.trace());
        is(123, x.history(0));
        is(1, x.count(17));
        is(false, x.end(1));
    }

    private static void law() {
        AdmissionDesk x = new AdmissionDesk();
        is(2, law(x, "cand > vict"));
        is(2, x.count(18));
        is(8, law(x, " 1+2-3 = 0000 and\tnot(hits<asks)and\n1>0 "));
        is(4, law(x, "1=1and key=0009"));
        bad(ILLEGAL, x::law);
        is(4, x.count(18));
        tape(x, "cand >");
        bad(ILLEGAL, x::law);
        is(4, x.count(18));
        is(false, x.end(1));
        is(60, law(x, "1" + "+1".repeat(58) + "=59"));
        is(true, x.wins(1, 2));
        is(2, law(x, "((((((((1=1))))))))"));
        is(16, law(x, "((((((((1=1))))))))or not((((((((1=1))))))))" + "or(1=1)".repeat(6)));
        is(2, law(x, "not ".repeat(90) + "1=1"));
        is(true, x.wins(1, 2));
        is(2, law(x, "not ".repeat(91) + "1=1"));
        is(false, x.wins(1, 2));
    }

    private static void free() {
        AdmissionDesk x = new AdmissionDesk();
        is(false, x.free());
        law(x, "1=1");
        is(true, x.wins(1, 2));
        is(true, x.free());
        is(false, x.wins(1, 2));
        is(NONE, x.count(18));
        is(false, x.free());
    }

    private static void trace() {
        AdmissionDesk x = new AdmissionDesk();
        is(3, trace(x, "5*3 6 5"));
        is(5, x.count(0));
        is(3, x.count(1));
        is(4, trace(desk(""), "(1-2 2)*2"));
        x = desk("(1-3*2 9)*2");
        is(14, x.count(0));
        int[] due = {1, 2, 3, 1, 2, 3, 9, 1, 2, 3, 1, 2, 3, 9};
        for (int k = 0; k < due.length; k++) {
            is(due[k], x.history(k));
        }
        is(499, trace(desk(""), "(7*100)*5"));
        is(500, desk("0-499").count(0));
        is(500, desk("((((((0)*5)*2)*5)*2)*5)").count(0));
        is(99, trace(desk(""), "00007*00100"));
        is(1, desk("99999").count(0));
        is(99999, desk("99998-99999").history(1));
        is(1, desk("7-7").count(0));
        is(3, desk("1 2 \n\t 3 ").count(0));
        bad(ILLEGAL, new AdmissionDesk()::trace);
    }

    private static void fault() {
        AdmissionDesk x = new AdmissionDesk();
        is(NONE, x.fault());
        tape(x, "1 x");
        bad(ILLEGAL, x::trace);
        is(2, x.fault());
        x.ask(1);
        is(2, x.fault());
        tape(x, "cand = 12345");
        bad(ILLEGAL, x::law);
        is(7, x.fault());
        trace(x, "1");
        is(NONE, x.fault());
        bad(ILLEGAL, x::trace);
        is(0, x.fault());
        law(x, "1=1");
        is(NONE, x.fault());
    }

    private static void ask() {
        AdmissionDesk x = new AdmissionDesk();
        is(0, x.ask(1));
        is(1, x.ask(1));
        is(0, x.ask(2));
        is(2, x.ask(1));
        is(3, x.ask(1));
        is(0, x.ask(0));
        is(0, x.ask(99999));
        bad(ILLEGAL, () -> x.ask(-1));
        bad(ILLEGAL, () -> x.ask(100000));
        bad(ILLEGAL, () -> x.ask(Integer.MAX_VALUE));
        is(7, x.count(0));
        is(3, x.count(1));
        is(7, x.count(17));
        is(99999, x.history(6));
    }

    private static void where() {
        AdmissionDesk x = desk("1-3 1");
        is(3, x.where(1));
        is(2, x.where(2));
        is(1, x.where(3));
        is(0, x.where(4));
        is(0, x.where(0));
        is(0, x.where(99999));
        is(4, x.count(0));
        bad(ILLEGAL, () -> x.where(-1));
        bad(ILLEGAL, () -> x.where(100000));
    }

    private static void part() {
        AdmissionDesk x = desk("1-3 1");
        is(1, x.part(1, 0));
        is(1, x.part(2, 0));
        is(1, x.part(3, 0));
        is(1, x.part(1, 1));
        is(2, x.part(2, 1));
        is(7, x.part(3, 1));
        bad(MISSING, () -> x.part(0, 0));
        bad(MISSING, () -> x.part(4, 0));
        bad(MISSING, () -> x.part(1, 2));
        bad(MISSING, () -> x.part(1, -1));
        x.tell(0, 64);
        x.tell(1, 99);
        x.tell(2, 99);
        is(63, x.part(1, 1));
        is(1, x.part(2, 1));
        is(0, x.part(3, 1));
        x.tell(0, 1);
        is(1, x.part(1, 1));
        is(0, x.part(2, 1));
        is(0, x.part(3, 1));
        x.tell(0, 64);
        x.tell(1, 1);
        x.tell(2, 0);
        is(1, x.part(1, 1));
        is(63, x.part(2, 1));
        is(0, x.part(3, 1));
    }

    private static void at() {
        AdmissionDesk x = desk("1-5 2 3");
        row(x, 1, 5);
        row(x, 2, 4, 1);
        row(x, 3, 3, 2);
        is(NONE, x.at(1, -1));
        is(NONE, x.at(3, Integer.MAX_VALUE));
        is(NONE, x.at(3, Integer.MIN_VALUE));
        bad(MISSING, () -> x.at(0, 0));
        bad(MISSING, () -> x.at(4, 0));
        x.ask(2);
        row(x, 3, 2, 3);
    }

    private static void latest() {
        AdmissionDesk x = open("");
        x.tell(0, 3);
        trace(x, "1-3");
        is(2, x.latest(0));
        is(NONE, x.latest(1));
        is(NONE, x.latest(2));
        is(NONE, x.latest(3));
        trace(x, "3*3 4 5");
        is(4, x.latest(0));
        is(2, x.latest(1));
        is(4, x.latest(2));
        is(0, x.latest(3));
        x.ask(5);
        is(4, x.latest(0));
        x.ask(6);
        is(5, x.latest(0));
        is(2, x.latest(1));
        is(2, x.latest(2));
        is(1, x.latest(3));
        bad(MISSING, () -> x.latest(-1));
        bad(MISSING, () -> x.latest(4));
        x.tell(0, 64);
        x.tell(1, 99);
        x.ask(7);
        for (int what = 0; what < 4; what++) {
            is(NONE, x.latest(what));
        }
        x.tell(0, 1);
        x.ask(8);
        is(7, x.latest(0));
        is(NONE, x.latest(1));
        is(7, x.latest(2));
        is(NONE, x.latest(3));
    }

    private static void out() {
        AdmissionDesk x = new AdmissionDesk();
        x.tell(0, 1);
        trace(x, "1-20");
        for (int k = 0; k < 16; k++) {
            is(19 - k, x.out(k));
        }
        is(NONE, x.out(16));
        is(NONE, x.out(-1));
        is(19, x.count(2));
        x.ask(4);
        is(1, x.count(3));
        is(20, x.out(0));
        is(19, x.out(1));
        is(5, x.out(15));
        is(NONE, x.out(16));
        x.ask(10);
        is(2, x.count(3));
        is(4, x.out(0));
        is(11, x.out(10));
        is(9, x.out(11));
        is(5, x.out(15));
        x.ask(1);
        is(2, x.count(3));
        is(6, x.out(15));
    }

    private static void estimate() {
        AdmissionDesk x = desk("5");
        is(1, x.estimate(5));
        is(0, x.estimate(6));
        x.ask(5);
        is(2, x.estimate(5));
        trace(x, "5*20");
        is(16, x.estimate(5));
        x.doorman(false);
        is(15, x.estimate(5));
        is(0, x.estimate(99999));
        bad(ILLEGAL, () -> x.estimate(-1));
        bad(ILLEGAL, () -> x.estimate(100000));
    }

    private static void place() {
        AdmissionDesk x = new AdmissionDesk();
        int[] keys = {0, 1, 99999};
        int[] four = {31, 60, 24, 6, 63, 57, 48, 13, 63, 27, 27, 25};
        int[] one = {15, 12, 8, 6, 15, 9, 0, 13, 15, 11, 11, 9};
        int[] most = {223, 188, 88, 134, 191, 121, 176, 13, 191, 155, 27, 217};
        for (int k = 0; k < 12; k++) {
            is(four[k], x.place(keys[k / 4], k % 4));
        }
        x.tell(5, 1);
        for (int k = 0; k < 12; k++) {
            is(one[k], x.place(keys[k / 4], k % 4));
        }
        x.tell(5, 16);
        for (int k = 0; k < 12; k++) {
            is(most[k], x.place(keys[k / 4], k % 4));
        }
        bad(ILLEGAL, () -> x.place(-1, 0));
        bad(ILLEGAL, () -> x.place(100000, 0));
        bad(ILLEGAL, () -> x.place(1, -1));
        bad(ILLEGAL, () -> x.place(1, 4));
    }

    private static void counter() {
        AdmissionDesk x = open("1*3");
        is(3, x.counter(0, 63));
        is(3, x.counter(1, 57));
        is(3, x.counter(2, 48));
        is(3, x.counter(3, 13));
        is(0, x.counter(3, 14));
        trace(x, "99999*2");
        is(5, x.counter(0, 63));
        bad(ILLEGAL, () -> x.counter(-1, 0));
        bad(ILLEGAL, () -> x.counter(4, 0));
        bad(ILLEGAL, () -> x.counter(0, -1));
        bad(ILLEGAL, () -> x.counter(0, 64));
        x.tell(5, 16);
        is(0, x.counter(0, 255));
        bad(ILLEGAL, () -> x.counter(0, 256));
        x.tell(5, 1);
        is(0, x.counter(3, 15));
        bad(ILLEGAL, () -> x.counter(3, 16));
    }

    private static void meets() {
        AdmissionDesk x = new AdmissionDesk();
        is(0, x.meets(0, 1));
        is(1, x.meets(0, 2));
        is(2, x.meets(3, 13));
        is(2, x.meets(13, 3));
        is(4, x.meets(5, 5));
        x.tell(5, 1);
        is(3, x.meets(1, 15));
        is(4, x.meets(99999, 651));
        bad(ILLEGAL, () -> x.meets(-1, 1));
        bad(ILLEGAL, () -> x.meets(1, -1));
        bad(ILLEGAL, () -> x.meets(100000, 1));
        bad(ILLEGAL, () -> x.meets(1, 100000));
    }

    private static void noted() {
        AdmissionDesk x = desk("5");
        is(true, x.noted(5));
        is(false, x.noted(1));
        is(2, x.count(14));
        // 191 and 143 of key 5; 191 is key 1's too.
        x.ask(1);
        is(3, x.count(14));
        is(true, x.noted(1));
        // Key 84 has one bit alone.
        x.ask(84);
        is(4, x.count(14));
        x.doorman(false);
        is(false, x.noted(5));
        bad(ILLEGAL, () -> x.noted(-1));
        bad(ILLEGAL, () -> x.noted(100000));
    }

    private static void halve() {
        AdmissionDesk x = desk("5*6 7*2");
        is(6, x.count(4));
        is(6, x.estimate(5));
        is(3, x.halve());
        is(3, x.count(4));
        is(1, x.count(5));
        is(2, x.estimate(5));
        is(0, x.estimate(7));
        is(false, x.noted(5));
        is(0, x.count(14));
        is(1, x.halve());
        is(0, x.halve());
        is(0, x.halve());
        is(4, x.count(5));
        is(0, x.count(16));
    }

    private static void wins() {
        AdmissionDesk x = desk("5*3 7*2");
        is(true, x.wins(5, 7));
        is(false, x.wins(7, 5));
        is(false, x.wins(5, 5));
        is(false, x.wins(8, 9));
        law(x, "cand = vict");
        is(true, x.wins(8, 9));
        is(true, x.wins(5, 5));
        is(false, x.wins(5, 7));
        is(0, x.count(19));
        bad(ILLEGAL, () -> x.wins(-1, 5));
        bad(ILLEGAL, () -> x.wins(5, 100000));
    }

    private static void tell() {
        AdmissionDesk x = new AdmissionDesk();
        int[] first = {10, 10, 80, 200, 0, 4};
        int[] least = {1, 1, 0, 10, 10, 1};
        int[] most = {64, 99, 99, 20000, 1000, 16};
        int[] counted = {8, 7, 9, 10, 11, 12};
        for (int what = 0; what < 6; what++) {
            int w = what;
            is(first[w], x.tell(w, least[w]));
            is(least[w], x.count(counted[w]));
            is(least[w], x.tell(w, most[w]));
            is(most[w], x.count(counted[w]));
            bad(ILLEGAL, () -> x.tell(w, least[w] - 1));
            bad(ILLEGAL, () -> x.tell(w, most[w] + 1));
            bad(ILLEGAL, () -> x.tell(w, Integer.MIN_VALUE));
            is(most[w], x.count(counted[w]));
        }
        is(1000, x.tell(4, 0));
        bad(ILLEGAL, () -> x.tell(4, 1));
        bad(ILLEGAL, () -> x.tell(4, -1));
        bad(MISSING, () -> x.tell(-1, 10));
        bad(MISSING, () -> x.tell(6, 10));
        bad(MISSING, () -> x.tell(6, -99));
        AdmissionDesk y = open("1-40 1-5");
        is(45, y.count(4));
        is(200, y.tell(3, 11));
        is(5, y.count(4));
        is(3, y.count(5));
        AdmissionDesk z = desk("1*3");
        is(4, z.tell(5, 4));
        is(0, z.estimate(1));
        is(0, z.count(4));
        is(0, z.count(14));
        is(0, z.count(16));
        is(1, z.count(13));
    }

    private static void doorman() {
        AdmissionDesk x = desk("1 2 2");
        is(false, x.doorman(true));
        is(true, x.noted(1));
        is(true, x.doorman(false));
        is(0, x.count(13));
        is(0, x.count(14));
        is(0, x.estimate(1));
        is(1, x.estimate(2));
        is(false, x.doorman(false));
        is(true, x.doorman(true));
        is(1, x.count(13));
        is(false, x.noted(1));
        is(1, x.count(4));
    }

    private static void again() {
        AdmissionDesk x = new AdmissionDesk();
        is(0, x.again(10));
        trace(x, "(1-3)*4 9");
        is(6 + 3, x.count(1));
        is(9, x.again(10));
        is(13, x.count(0));
        bad(ILLEGAL, () -> x.again(0));
        bad(ILLEGAL, () -> x.again(100));
        // Played again: room and law of now, a period none, and a sketch that is empty.
        x.tell(0, 2);
        is(3, x.again(1));
        law(x, "asks = 4 or out = 1");
        is(4, x.again(1));
        x.tell(4, 10);
        is(4, x.again(99));
        is(10, x.count(7));
        trace(x, "(50)*100");
        is(99, x.again(50));
    }

    private static void best() {
        AdmissionDesk x = new AdmissionDesk();
        is(1, x.best(false));
        is(0, x.best(true));
        x.tell(0, 10);
        law(x, "1=0");
        // A law by which none ever wins: the main part keeps the first ones, the window has what is new.
        trace(x, "0-9 (20-24)*5");
        is(50, x.best(false));
        is(20, x.best(true));
        is(20, x.again(90));
        is(0, x.again(40));
        is(10, x.count(7));
    }

    private static void plain() {
        AdmissionDesk x = desk("1-3 1-3 3");
        is(1, x.plain(1));
        is(1, x.plain(2));
        is(4, x.plain(3));
        is(4, x.plain(64));
        bad(ILLEGAL, () -> x.plain(0));
        bad(ILLEGAL, () -> x.plain(65));
        is(35, desk("(1-65) 2-36").plain(64));
        is(36, desk("(1-64) 1-36").plain(64));
        is(0, desk("1-50 1-50").plain(49));
        is(50, desk("1-50 1-50").plain(50));
    }

    private static void ideal() {
        AdmissionDesk x = desk("1-3 1-3 3");
        is(2, x.ideal(1));
        is(3, x.ideal(2));
        is(4, x.ideal(3));
        is(4, x.ideal(64));
        bad(ILLEGAL, () -> x.ideal(0));
        bad(ILLEGAL, () -> x.ideal(65));
        is(0, new AdmissionDesk().ideal(5));
        // The new one goes itself, if it is asked for latest.
        is(3, desk("1 2 1 3 1 2 1").ideal(1));
        is(4, desk("1 2 1 3 1 2 1").ideal(2));
        is(49, desk("1-50 1-50").ideal(49));
    }

    private static void enough() {
        AdmissionDesk x = desk("1-3 1-3 3");
        is(1, x.enough(Integer.MIN_VALUE));
        is(1, x.enough(0));
        is(1, x.enough(1));
        is(3, x.enough(2));
        is(3, x.enough(4));
        is(NONE, x.enough(5));
        is(NONE, new AdmissionDesk().enough(1));
        is(64, desk("1-64 1").enough(1));
        is(NONE, desk("1-65 1").enough(1));
    }

    private static void needed() {
        AdmissionDesk x = desk("5*3");
        is(0, x.needed(5, 6));
        is(4, x.needed(6, 5));
        is(3, x.estimate(5));
        is(0, x.estimate(6));
        is(NONE, x.needed(5, 5));
        bad(ILLEGAL, () -> x.needed(-1, 5));
        bad(ILLEGAL, () -> x.needed(5, 100000));
        law(x, "cand = 15");
        is(15, x.needed(6, 5));
        law(x, "cand > 15");
        is(16, x.needed(6, 5));
        law(x, "cand > 16");
        is(NONE, x.needed(6, 5));
        law(x, "asks > 3");
        is(NONE, x.needed(6, 5));
        // Halved on the way: the other one's counters go down.
        law(x, "vict = 1");
        x.tell(3, 10);
        is(NONE, x.needed(5, 9));
        is(9, x.needed(8, 5));
        is(3, x.estimate(5));
        is(0, x.count(5));
        AdmissionDesk y = open("");
        law(y, "cand = 20 or asks = 1");
        is(NONE, y.needed(1, 2));
        y.ask(1);
        is(0, y.needed(1, 2));
        // Halved at 10 alone: 5 then, and 15 with the 20th; one ask less ahead, or one more, and 20 are too few.
        int[] due = {NONE, 20, NONE};
        for (int k = 0; k < 3; k++) {
            AdmissionDesk z = open("50-" + (60 + k));
            z.tell(3, 22);
            law(z, "cand = 15");
            is(due[k], z.needed(1, 2));
            is(11 + k, z.count(4));
        }
    }

    private static void twin() {
        AdmissionDesk x = new AdmissionDesk();
        is(248, x.twin(0));
        is(497, x.twin(1));
        is(660, x.twin(7));
        is(459, x.twin(99999));
        x.tell(5, 1);
        is(599, x.twin(0));
        is(15, x.twin(1));
        is(651, x.twin(99999));
        x.tell(5, 16);
        is(0, x.twin(6));
        // Key 1000 would be nearer, but is none of 0 to 999.
        is(2, x.meets(2909, 1000));
        is(2, x.twin(2909));
        is(14, x.twin(7));
        is(1, x.twin(99999));
        bad(ILLEGAL, () -> x.twin(-1));
        bad(ILLEGAL, () -> x.twin(100000));
    }

    private static void historyRow() {
        AdmissionDesk x = desk("1-5");
        is(1, x.history(0));
        is(5, x.history(4));
        is(NONE, x.history(5));
        is(NONE, x.history(-1));
        trace(x, "100-198");
        is(100, x.count(17));
        is(5, x.history(0));
        is(198, x.history(99));
        is(NONE, x.history(100));
    }

    private static void past() {
        AdmissionDesk x = new AdmissionDesk();
        is(0, x.past(0));
        is(NONE, x.past(1));
        is(0, x.past(2));
        is(0, x.past(3));
        is(NONE, x.past(4));
        trace(x, "9 1 2 9 3 4 1");
        is(5, x.past(0));
        is(1, x.past(1));
        is(2, x.past(2));
        is(5, x.past(3));
        is(4, x.past(4));
        x.ask(9);
        is(9, x.past(1));
        is(3, x.past(2));
        is(4, x.past(4));
        is(0, desk("3 3").past(4));
        is(1, desk("3 3").past(3));
        is(NONE, desk("3 4 5").past(4));
        is(100, desk("0-150").past(3));
        bad(MISSING, () -> x.past(-1));
        bad(MISSING, () -> x.past(5));
    }

    private static void asked() {
        AdmissionDesk x = desk("4*3 5 4");
        is(4, x.asked(4));
        is(1, x.asked(5));
        is(0, x.asked(6));
        trace(x, "100-196");
        is(2, x.asked(4));
        bad(ILLEGAL, () -> x.asked(-1));
        bad(ILLEGAL, () -> x.asked(100000));
    }

    private static void hot() {
        // Window 5, tried 4 and 1, safe 3 and 2.
        AdmissionDesk x = open("1-5 2 3");
        is(3, x.hot(0));
        is(2, x.hot(1));
        is(4, x.hot(2));
        is(1, x.hot(3));
        is(5, x.hot(4));
        is(NONE, x.hot(5));
        is(NONE, x.hot(-1));
        trace(x, "5*3");
        is(5, x.hot(0));
        is(3, x.hot(1));
    }

    private static void heat() {
        AdmissionDesk x = open("1-5 2 3 5*3");
        is(5, x.heat(0));
        is(5, x.heat(-7));
        is(5, x.heat(1));
        is(3, x.heat(2));
        is(1, x.heat(3));
        is(1, x.heat(4));
        is(0, x.heat(5));
        is(0, x.heat(Integer.MAX_VALUE));
    }

    private static void written(String due, String trace) {
        AdmissionDesk x = desk(trace);
        is(due.length(), x.write());
        for (int k = 0; k < due.length(); k++) {
            is(due.charAt(k), x.octet(k));
        }
        is(NONE, x.octet(due.length()));
    }

    private static void write() {
        is(0, new AdmissionDesk().write());
        written("1-5 1*2 2-4 4 6 4 7", "1-5 1*2 2-4 4 6 4 7");
        written("7", "7");
        written("7*3 8", "7*3 8");
        written("6-7 7*2", "6 7 7 7");
        written("0 99998-99999", "0 99998 99999");
        written("7*100", "6*9 7*100");
        written("6-7 7*98", "6*2 7*99");
        written("1-2 1-2", "(1 2)*2");
        written("3 2 1 0 10 100 1000 10000", "3 2 1 0 10 100 1000 10000");
    }

    private static void octet() {
        AdmissionDesk x = desk("12*3");
        is(NONE, x.octet(0));
        is(4, x.write());
        x.ask(1);
        is('1', x.octet(0));
        is('2', x.octet(1));
        is('*', x.octet(2));
        is('3', x.octet(3));
        is(NONE, x.octet(4));
        is(NONE, x.octet(-1));
        is(6, x.write());
        is('1', x.octet(5));
    }

    private static void keep() {
        AdmissionDesk x = unkept();
        is(38, x.keep());
        is(0, new AdmissionDesk().keep());
        tape(x, "1 2");
        is(38, x.keep());
        x.trace();
        is(40, x.count(0));
        is(40, x.keep());
        x.ask(1);
        x.back();
        is(40, x.count(0));
    }

    private static void back() {
        AdmissionDesk x = unkept();
        bad(STATE, x::back);
        alike(unkept(), x);
        AdmissionDesk y = busy();
        y.keep();
        for (int turn = 0; turn < 2; turn++) {
            trace(y, "60-99 1-30");
            y.tell(0, 64);
            y.tell(1, 70);
            y.tell(2, 5);
            y.tell(3, 5000);
            y.tell(4, 0);
            y.tell(5, 7);
            y.free();
            y.doorman(false);
            y.needed(1, 2);
            y.best(true);
            tape(y, "12 13");
            is(43, y.back());
            is(43, y.count(0));
            is(6, y.count(8));
            is(true, y.end(5));
        }
        AdmissionDesk z = busy();
        z.keep();
        alike(z, y, "fault");
    }

    private static void count() {
        AdmissionDesk x = open("1-12 3*2");
        // Key 3 is in tried: the first one that comes to safe.
        counts(x, 14, 2, 2, 0, 14, 0, 10, 10, 10, 80, 200, 0, 4, 0, 0);
        is(14, x.count(17));
        is(NONE, x.count(18));
        is(0, x.count(19));
        is(2, x.count(20));
        is(NONE, x.count(21));
        is(NONE, x.count(-1));
        is(NONE, x.count(Integer.MIN_VALUE));
        is(4 * 14, x.count(16));
        AdmissionDesk y = open("1*3");
        is(4, y.count(15));
        is(12, y.count(16));
        AdmissionDesk z = desk("5*3");
        is(2, z.count(14));
        is(4, z.count(15));
        is(8, z.count(16));
        is(2, z.count(4));
        law(z, "1=1 and 2=2");
        is(4, z.count(18));
    }

    private static void counting() {
        AdmissionDesk x = open("1*15");
        is(15, x.count(4));
        x.ask(1);
        is(15, x.count(4));
        // 99999 meets 1 in row 0 alone: three of its counters go up.
        trace(x, "99999");
        is(16, x.count(4));
        is(15, x.counter(0, 63));
        AdmissionDesk y = open("");
        y.tell(3, 10);
        trace(y, "1*9");
        is(9, y.count(4));
        is(0, y.count(5));
        y.ask(1);
        is(5, y.count(4));
        is(1, y.count(5));
        is(5, y.estimate(1));
        // The doorman holds the first one back, and forgets all when it is halved.
        AdmissionDesk z = desk("");
        z.tell(3, 10);
        trace(z, "1*10");
        is(9, z.count(4));
        is(true, z.noted(1));
        z.ask(1);
        is(false, z.noted(1));
        is(5, z.estimate(1));
        z.ask(1);
        is(5, z.count(4));
        is(6, z.estimate(1));
    }

    private static void contests() {
        // Tried is for one alone, safe for one; room for three.
        AdmissionDesk x = open("");
        x.tell(0, 3);
        x.tell(2, 50);
        is(1, x.part(2, 1));
        is(1, x.part(3, 1));
        trace(x, "1-3 1 2");
        // 2 came to safe, which is for one: 1 goes to the front of tried.
        row(x, 3, 2);
        row(x, 2, 1);
        row(x, 1, 3);
        x.ask(4);
        is(3, x.latest(0));
        is(1, x.latest(1));
        is(3, x.latest(2));
        trace(x, "4*4 5");
        is(1, x.latest(3));
        is(1, x.latest(2));
        row(x, 2, 4);
        row(x, 1, 5);
        is(1, x.out(0));
        is(3, x.out(1));
        AdmissionDesk z = open("");
        z.tell(0, 2);
        z.tell(2, 99);
        is(0, z.part(3, 1));
        trace(z, "1 2 1");
        // Safe is for none: what goes there comes back to tried.
        row(z, 3);
        row(z, 2, 1);
        is(2, z.where(1));
        // Safe is full: its last one goes to the front of tried.
        AdmissionDesk y = open("");
        y.tell(2, 99);
        trace(y, "1-10 1-8");
        row(y, 3, 8, 7, 6, 5, 4, 3, 2, 1);
        row(y, 2, 9);
        row(y, 1, 10);
        y.ask(9);
        row(y, 3, 9, 8, 7, 6, 5, 4, 3, 2);
        row(y, 2, 1);
        row(y, 1, 10);
    }

    private static void climbing() {
        AdmissionDesk x = open("");
        x.tell(4, 10);
        trace(x, "1-9");
        is(10, x.count(7));
        x.ask(10);
        is(15, x.count(7));
        // Ten hits are not fewer than none, five are fewer than ten.
        trace(x, "10*10");
        is(20, x.count(7));
        trace(x, "10*5 50-54");
        is(15, x.count(7));
        trace(x, "54*5 60-64");
        is(10, x.count(7));
        trace(x, "64*4 70-75");
        is(15, x.count(7));
        x.tell(1, 97);
        trace(x, "75*4 80-85");
        is(99, x.count(7));
        trace(x, "85*4 90-95");
        is(99, x.count(7));
        trace(x, "200-209");
        is(94, x.count(7));
        x.tell(1, 3);
        trace(x, "210-219");
        is(1, x.count(7));
        trace(x, "220-229");
        is(1, x.count(7));
        // A new period: the way is up, no hits were ahead.
        x.tell(4, 10);
        trace(x, "230-239");
        is(6, x.count(7));
        trace(x, "240-244");
        x.tell(4, 10);
        trace(x, "245-249");
        is(6, x.count(7));
        trace(x, "250-254");
        is(11, x.count(7));
        x.tell(4, 0);
        trace(x, "300-400");
        is(11, x.count(7));
    }

    private static void fitted() {
        AdmissionDesk x = open("1-10 1-7");
        row(x, 1, 10);
        row(x, 2, 9, 8);
        row(x, 3, 7, 6, 5, 4, 3, 2, 1);
        x.keep();
        // Safe is for 4: its last three come to the front of tried, one by one.
        x.tell(2, 50);
        row(x, 3, 7, 6, 5, 4);
        row(x, 2, 3, 2, 1, 9, 8);
        is(NONE, x.out(0));
        x.back();
        // A room of 5: the main part for 4, safe for 3; the coldest go, of tried first, from its end on.
        x.tell(0, 5);
        row(x, 1, 10);
        row(x, 3, 7, 6, 5);
        row(x, 2, 4);
        is(3, x.out(0));
        is(2, x.out(1));
        is(1, x.out(2));
        is(9, x.out(3));
        is(8, x.out(4));
        is(5, x.count(2));
        is(0, x.count(20));
        x.back();
        x.tell(0, 1);
        row(x, 1, 10);
        row(x, 2);
        row(x, 3);
        is(9, x.count(2));
        is(7, x.out(0));
        is(8, x.out(8));
        x.back();
        // The window's last ones come to tried behind those of safe.
        x.tell(1, 50);
        row(x, 3, 7, 6, 5, 4);
        row(x, 2, 3);
        trace(x, "20-24");
        row(x, 1, 24, 23, 22, 21, 20);
        x.tell(1, 20);
        row(x, 1, 24, 23);
        is(20, x.at(2, 2));
        is(22, x.at(2, 0));
        // A cold one of safe goes ahead of a hot one of tried.
        AdmissionDesk y = open("1*5 4*5 2 3 2");
        row(y, 1, 3);
        row(y, 2, 4, 1);
        row(y, 3, 2);
        y.tell(0, 3);
        is(2, y.out(0));
        is(1, y.count(2));
        row(y, 2, 4, 1);
        // Of like ones one of tried goes ahead of one of safe.
        AdmissionDesk z = open("1*2 4*5 2 3 2");
        z.tell(0, 3);
        is(1, z.out(0));
        row(z, 2, 4);
        row(z, 3, 2);
    }

    private static void lawMeaning() {
        AdmissionDesk x = desk("5*4 6*2 7 8 8");
        is(4, x.estimate(5));
        is(2, x.estimate(6));
        String[] hold = {"cand=4 and vict=2", "hits=5", "asks=9", "out=0", "door=10", "room=10", "key=5",
            "1<2", "2>1", "not 1=2", "not not 1=1", "1=2 or 1=1 and 1=1", "1=1 or 1=1 and 1=2",
            "not(1=2 and 1=1)", "not 1=2 and 1=1", "10-3-2=5", "1-2<0", "0-1+2=1", "1+2=3",
            "(1=2 or 1=1) and 1=1", "1=1 or not 1=1", "9999>9998", "cand+vict+hits-asks=2", "1=1 or 1=2 or 1=2",
            "cand  =\n4\tand not(not(vict=2))", "1=1and 2=2or 3=4"};
        String[] fail = {"1=2", "1<1", "1>1", "not 1=1", "(1=1 or 1=1) and 1=2", "not 1=1 or 1=2",
            "not(1=1 or 1=2)", "10-3-2=9", "key=15", "1=1 and 1=2 or 1=2", "1=2 or 1=2 and 1=1", "cand<vict"};
        for (String text : hold) {
            law(x, text);
            is(true, x.wins(5, 6));
        }
        for (String text : fail) {
            law(x, text);
            is(false, x.wins(5, 6));
        }
        law(x, "key = 9");
        is(true, x.wins(99999, 1));
        // In a contest the ask at hand is counted, what goes out by it is not.
        AdmissionDesk y = open("");
        y.tell(0, 2);
        law(y, "asks = 4 and out = 1 and hits = 0 and room = 2");
        trace(y, "1-3");
        is(0, y.latest(3));
        is(2, y.latest(2));
        y.ask(4);
        is(1, y.latest(3));
        is(1, y.latest(2));
        is(1, y.count(19));
        is(1, y.count(20));
    }

    private static void lawFaults() {
        lawFault(0, "");
        lawFault(2, "  ");
        lawFault(4, "cand");
        lawFault(6, "cand >");
        lawFault(7, "cand > ");
        lawFault(5, "cand vict");
        lawFault(0, "can");
        lawFault(0, "cands > 1");
        lawFault(0, "candz > 1");
        lawFault(0, "acand > 1");
        lawFault(0, "or");
        lawFault(4, "not1");
        lawFault(0, "notcand > 1");
        lawFault(3, "not");
        lawFault(4, "not and");
        lawFault(7, "cand > foo");
        lawFault(7, "cand > 12345");
        lawFault(0, "00000 = 0");
        lawFault(9, "cand > 1 x");
        lawFault(9, "cand > 1 an");
        lawFault(12, "cand > 1 and");
        lawFault(9, "cand > 1 andor");
        lawFault(6, "cand >= 1");
        lawFault(5, "cand ! 1");
        lawFault(5, "cand * 1");
        lawFault(4, "candX > 1");
        lawFault(0, "Cand > 1");
        lawFault(9, "cand > 1 > 1");
        lawFault(9, "cand > 1 )");
        lawFault(9, "(cand > 1");
        lawFault(10, "(cand > 1 ");
        lawFault(1, "()");
        lawFault(7, "cand > (1)");
        lawFault(2, "(1)=1");
        lawFault(6, "1 = 1+");
        lawFault(6, "1 = 1+-1");
        lawFault(3, "1=1\r");
        lawFault(3, "1=1\u0000");
        lawFault(3, "1=1\u00ff");
        lawFault(8, "(((((((((1=1)))))))))");
        lawFault(14, "( ( ( (( ( (( (1=1)))))))))");
        String parts59 = "1" + "+1".repeat(58);
        lawFault(120, parts59 + "=1+1");
        lawFault(122, parts59 + "=1 + 1");
        lawFault(122, parts59 + "=1or 1=1");
        lawFault(123, parts59 + "=1or (1=1)");
        lawFault(120, parts59 + "+1+1");
        lawFault(120, parts59 + "+1=1");
        lawFault(120, parts59 + "+1=");
        lawFault(121, parts59 + "+1= ");
        lawFault(119, parts59 + "+1");
    }

    private static void traceFaults() {
        traceFault(0, "");
        traceFault(1, " ");
        traceFault(0, "x");
        traceFault(3, "12 x");
        traceFault(0, "100000");
        traceFault(2, "1 000001");
        traceFault(3, "12-");
        traceFault(4, "12- ");
        traceFault(3, "12-11");
        traceFault(3, "12-1");
        traceFault(3, "12-100000");
        traceFault(5, "12-13-14");
        traceFault(2, "5*");
        traceFault(2, "5*0");
        traceFault(3, "5* 101");
        traceFault(2, "5*000001");
        traceFault(3, "5*2*2");
        traceFault(0, "*2");
        traceFault(0, "-2");
        traceFault(1, "(");
        traceFault(1, "()");
        traceFault(2, "(5");
        traceFault(4, "(5)*");
        traceFault(3, "(5)-6");
        traceFault(3, "(5))");
        traceFault(1, "5)");
        traceFault(6, "(((((((1)))))))");
        traceFault(10, "(1)((((((1(1)))))))");
        traceFault(0, "0-500");
        traceFault(0, "0-99999*100");
        traceFault(6, "0-499 1");
        traceFault(6, "0-399 0-100");
        traceFault(0, "(1-100)*6");
        traceFault(1, "(0-500)*1");
        traceFault(1, "((1-100)*6)");
        traceFault(0, "((1-100)*3)*2");
        // In all, also inside a bracket: 400 and 50 are fine, 60 more are not.
        traceFault(12, "1-400 (1-50 1-60)");
        // What is wrong in an item goes ahead of there being too many; what is behind it does not.
        traceFault(6, "0-500*101");
        traceFault(6, "0-500*x");
        traceFault(6, "0-500*");
        traceFault(0, "0-500 x");
        traceFault(7, "(0-99)*x");
        traceFault(7, "(0-99)*101");
        traceFault(1, "(0-500 x)");
        traceFault(5, "(0-49x)*100");
        traceFault(0, "(0-49)*100x");
    }

    private static void throwsLeaveAlone() {
        AdmissionDesk x = unkept();
        int[] wrong = {-1, 100000, Integer.MIN_VALUE, Integer.MAX_VALUE};
        for (int key : wrong) {
            bad(ILLEGAL, () -> x.ask(key));
            bad(ILLEGAL, () -> x.where(key));
            bad(ILLEGAL, () -> x.estimate(key));
            bad(ILLEGAL, () -> x.place(key, 0));
            bad(ILLEGAL, () -> x.counter(key, 0));
            bad(ILLEGAL, () -> x.counter(0, key));
            bad(ILLEGAL, () -> x.meets(key, 1));
            bad(ILLEGAL, () -> x.noted(key));
            bad(ILLEGAL, () -> x.wins(key, 1));
            bad(ILLEGAL, () -> x.again(key));
            bad(ILLEGAL, () -> x.plain(key));
            bad(ILLEGAL, () -> x.ideal(key));
            bad(ILLEGAL, () -> x.needed(key, 1));
            bad(ILLEGAL, () -> x.twin(key));
            bad(ILLEGAL, () -> x.asked(key));
            for (int what = 0; what < 6; what++) {
                int w = what;
                bad(ILLEGAL, () -> x.tell(w, key));
            }
        }
        tape(x, "1 2 3 x");
        bad(ILLEGAL, x::trace);
        is(false, x.end(1));
        tape(x, "cand > vict x");
        bad(ILLEGAL, x::law);
        is(false, x.end(1));
        bad(STATE, x::back);
        AdmissionDesk y = unkept();
        y.end(0);
        alike(y, x, "fault");
    }
}
