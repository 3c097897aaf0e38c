/** The edges of what is told of HISTORY and of PARTS: promises 23 to 38. */
public final class ReplayEdgeTest extends Cases {
    public static void main(String[] args) {
        history();
        again();
        best();
        plain();
        ideal();
        enough();
        needed();
        twin();
        past();
        asked();
        hot();
        heat();
        write();
        octet();
        keepAndBack();
        climbKept();
        finish();
    }

    private static void history() {
        told("terms 3, HISTORY: 99 ASKS", () -> {
            AdmissionDesk x = desk("1-99");
            is(99, x.count(17));
            is(1, x.history(0));
            is(99, x.history(98));
            is(NONE, x.history(99));
        });
        told("terms 3, HISTORY: 100 ASKS", () -> {
            AdmissionDesk x = desk("1-100");
            is(100, x.count(17));
            is(1, x.history(0));
            is(100, x.history(99));
            is(NONE, x.history(100));
        });
        told("terms 3, HISTORY: of 101 ASKS the eldest is none any more", () -> {
            AdmissionDesk x = desk("1-101");
            is(100, x.count(17));
            is(2, x.history(0));
            is(101, x.history(99));
            is(NONE, x.history(100));
            is(0, x.asked(1));
            is(101, x.count(0));
        });
        told("terms 3, HISTORY: of 500 ASKS the latest 100", () -> {
            AdmissionDesk x = desk("0-499");
            is(400, x.history(0));
            is(499, x.history(99));
        });
        told("terms 3, HISTORY: HITS are in it as MISSES are, nothing else is", () -> {
            AdmissionDesk x = desk("7 7 8");
            x.where(9);
            x.again(10);
            x.tell(0, 5);
            bad(ILLEGAL, () -> x.ask(-1));
            history(x, 7, 7, 8);
        });
        told("promise 30, history: NONE without any, and below 0", () -> {
            is(NONE, new AdmissionDesk().history(0));
            is(NONE, desk("7").history(1));
            is(NONE, desk("7").history(-1));
        });
    }

    /** Asks by which nearly every setting makes a difference: 100 of them. */
    private static final String MANY = "28-31 17*2 26 17-18 5-6 6-9 22-27 25-28 6-11 24*6 7 8-10 14-16 11-12 14-16 12 2*3 "
        + "29*6 18-19 18 9-14 24-27 13-14 28-32 26*2 2-3 25-29 8-11 19 26-29 24-26";

    /** What comes ahead of HISTORY and must not count: more asks than 100 push it out of HISTORY. */
    private static final String AHEAD = "1-20*9 60-70*3";

    private static void tellAny(AdmissionDesk x, int what, int n) {
        if (what >= 0) {
            x.tell(what, n);
        }
    }

    /** A desk that has played the asks with another setting tells again as a new desk with that setting and that door. */
    private static void setting(String name, int what, int n, boolean isDoorman, String law) {
        told("terms 3, AGAIN: " + name, () -> {
            boolean differs = false;
            for (int door : new int[] {1, 25, 50, 75, 99}) {
                AdmissionDesk x = new AdmissionDesk();
                trace(x, AHEAD);
                trace(x, MANY);
                is(100, x.count(17));
                int plain = x.again(door);
                tellAny(x, what, n);
                x.doorman(isDoorman);
                if (!law.isEmpty()) {
                    law(x, law);
                }
                AdmissionDesk y = new AdmissionDesk();
                tellAny(y, what, n);
                y.doorman(isDoorman);
                y.tell(1, door);
                if (!law.isEmpty()) {
                    law(y, law);
                }
                is(trace(y, MANY), x.again(door));
                differs |= plain != x.again(door);
            }
            is(true, differs);
        });
    }

    /** The first contest is at the 94th ask, with 90 hits: if it is won, there is one hit more. */
    private static void lawAgain(String law, int due) {
        told("terms 3, AGAIN: THE LAW's words tell of the desk that is empty at first, " + law, () -> {
            AdmissionDesk x = shared(3, 10, 0, "50-59*3");
            trace(x, "7*91 1-4 1-4 1");
            law(x, law);
            is(due, x.again(1));
            is(due, x.again(1));
        });
    }

    private static void again() {
        told("terms 3, AGAIN: MANY are 100 ASKS", () -> is(100, desk(MANY).count(0)));
        setting("with the same ROOM", 0, 5, true, "");
        setting("with the same ROOM, the greatest", 0, 64, true, "");
        setting("with the same KEPT", 2, 20, true, "");
        setting("with the same KEPT, the least", 2, 0, true, "");
        setting("with the same KEPT, the greatest", 2, 99, true, "");
        setting("with the same SAMPLE", 3, 10, true, "");
        setting("with the same WIDE, the least", 5, 1, true, "");
        setting("with the same WIDE, the greatest", 5, 16, true, "");
        setting("with no DOORMAN, as there is none", -1, 0, false, "");
        setting("with the same LAW", -1, 0, true, "key > 4");
        setting("THE LAW's asks, hits, out, door, room are its own", -1, 0, true,
            "asks + hits + out + out < 99 and door + room > 39 and hits < 20");
        lawAgain("asks < 95", 93);
        lawAgain("asks < 94", 92);
        lawAgain("out = 0", 93);
        lawAgain("out > 99", 92);
        lawAgain("hits = 90 and asks = 94", 93);
        lawAgain("hits = 91 and asks = 94", 92);
        lawAgain("door = 1 and out = 0", 93);
        lawAgain("door = 10 and out = 0", 92);
        lawAgain("room = 3 and out = 0", 93);
        told("terms 3, AGAIN: with its own DOOR, not that of the desk", () -> {
            AdmissionDesk x = desk(MANY);
            int one = x.again(1);
            int most = x.again(99);
            is(true, one != most);
            x.tell(1, 99);
            is(one, x.again(1));
            is(most, x.again(99));
            is(99, x.count(7));
        });
        told("terms 3, AGAIN: no CLIMBING", () -> {
            boolean differs = false;
            for (int door : new int[] {1, 25, 50, 75, 99}) {
                AdmissionDesk x = new AdmissionDesk();
                x.tell(1, door);
                x.tell(4, 10);
                int climbed = trace(x, MANY);
                AdmissionDesk y = new AdmissionDesk();
                y.tell(1, door);
                is(trace(y, MANY), x.again(door));
                differs |= climbed != x.again(door);
            }
            is(true, differs);
        });
        told("terms 3, AGAIN: no CLIMBING, needed() and back() ahead of it neither", () -> {
            for (int door : new int[] {1, 25, 50, 75, 99}) {
                AdmissionDesk x = new AdmissionDesk();
                x.tell(1, door);
                trace(x, MANY);
                int due = x.count(1);
                is(due, x.again(door));
                x.tell(4, 10);
                x.keep();
                x.needed(1, 2);
                is(due, x.again(door));
                x.back();
                x.needed(99999, 2);
                is(due, x.again(door));
            }
        });
        told("terms 3, AGAIN: of a desk that is empty, its first ASK is a MISS", () -> {
            AdmissionDesk x = desk("7*2");
            is(1, x.again(10));
            trace(x, "7*99");
            is(100, x.count(17));
            is(100, x.count(1));
            is(99, x.again(10));
        });
        told("terms 3, AGAIN: nothing COUNTED", () -> {
            // 9 has been asked for ten times; in HISTORY, where that is not, it is too cold.
            AdmissionDesk x = shared(2, 50, 0, "9*10");
            law(x, "cand > 5");
            trace(x, "6*97 9 5 9");
            is(100, x.count(17));
            is(96, x.again(50));
            law(x, "cand < 5");
            is(97, x.again(50));
        });
        told("terms 3, AGAIN: from the eldest ASK on", () -> {
            // Backwards there would be one hit fewer.
            AdmissionDesk x = shared(2, 50, 0, "1*3 2 3 1 3");
            is(4, x.again(50));
            is(3, shared(2, 50, 0, "3 1 3 2 1*3").again(50));
        });
        told("terms 3, AGAIN: of the latest 100 ASKS alone", () -> {
            is(99, desk("7*100").again(10));
            is(99, desk("7*100 7*5").again(10));
            is(98, desk("7*100 8").again(10));
        });
        told("promise 23, again: 0 without HISTORY, and of one ASK", () -> {
            is(0, new AdmissionDesk().again(1));
            is(0, new AdmissionDesk().again(99));
            is(0, desk("7").again(50));
        });
        told("promise 23, again: the same answer again and again", () -> {
            AdmissionDesk x = desk(MANY);
            int first = x.again(30);
            x.again(99);
            x.best(true);
            x.needed(1, 2);
            is(first, x.again(30));
        });
    }

    private static void bestIs(String name, int door, int hits, AdmissionDesk x) {
        told("terms 3, BEST DOOR: " + name, () -> {
            is(door, x.best(false));
            is(hits, x.best(true));
            is(hits, x.again(door));
            for (int other = 0; other <= 90; other += 10) {
                int least = Math.max(1, other);
                int found = x.again(least);
                is(true, least < door ? found < hits : found <= hits);
            }
        });
    }

    private static AdmissionDesk lawful(int room, String law, String trace) {
        AdmissionDesk x = shared(room, 10, 80, "");
        law(x, law);
        trace(x, trace);
        return x;
    }

    private static void best() {
        bestIs("1 without HISTORY", 1, 0, new AdmissionDesk());
        bestIs("1, the least of several", 1, 5, desk("1-5 1-5"));
        bestIs("1, though 10 has as many HITS", 1, 40, lawful(12, "1=2", "0-9 (20 0-9 21)*3 0-5"));
        // None ever wins: what is new must find room in the window, and that is for so many as come again.
        for (int door = 10; door <= 90; door += 10) {
            int keys = door / 10;
            if (keys > 1) {
                bestIs("" + door, door, 4 * keys, lawful(10, "1=2", "50-59 (1-" + keys + ")*5"));
            }
        }
        bestIs("10, by one HIT alone", 10, 1, lawful(20, "1=2", "50-69 1 2 1"));
        // The window is for one key by any of them: the law alone tells them apart.
        for (int door = 0; door <= 90; door += 10) {
            int one = Math.max(1, door);
            bestIs(one + ", as the LAW tells", one, 1, lawful(2, "door = " + one, "1 2 3 2"));
        }
        told("terms 3, BEST DOOR: 99 is none of them, nor 95", () -> {
            AdmissionDesk x = lawful(20, "1=2", "50-69 1-19 1-19");
            is(19, x.again(99));
            is(19, x.again(95));
            is(0, x.again(90));
            is(1, x.best(false));
            is(0, x.best(true));
        });
    }

    private static void plain() {
        told("terms 3, PLAIN: a KEY comes again behind as many others as ROOM less 1: a HIT", () -> {
            is(1, desk("1-5 1").plain(5));
            is(1, desk("1-64 1").plain(64));
            is(1, desk("7 7").plain(1));
        });
        told("terms 3, PLAIN: a KEY comes again behind as many others as ROOM: none", () -> {
            is(0, desk("1-6 1").plain(5));
            is(0, desk("1-65 1").plain(64));
            is(0, desk("7 8 7").plain(1));
        });
        told("terms 3, PLAIN: the one asked for goes to its front", () -> {
            is(2, desk("1 2 1 3 1").plain(2));
            is(1, desk("1 2 1 3 2").plain(2));
        });
        told("terms 3, PLAIN: the one that goes is asked for again, and comes again", () ->
            is(1, desk("1 2 3 1 1").plain(2)));
        told("terms 3, PLAIN: the least and the greatest ROOM", () -> {
            AdmissionDesk x = desk("1-64 64 64 1");
            is(2, x.plain(1));
            is(2, x.plain(63));
            is(3, x.plain(64));
        });
        told("terms 3, PLAIN: none without HISTORY, of the latest 100 ASKS alone", () -> {
            is(0, new AdmissionDesk().plain(64));
            is(99, desk("7*100").plain(1));
            is(99, desk("7*100 7").plain(1));
            is(0, desk("7 0-99").plain(64));
        });
        told("promise 25, plain: the same answer again and again, whatever ROOM ahead", () -> {
            AdmissionDesk x = desk("7*98 8 8");
            for (int turn = 0; turn < 3; turn++) {
                is(98, x.plain(1));
                is(98, x.plain(64));
                x.ideal(1);
                is(1, x.enough(98));
            }
        });
        told("terms 3, PLAIN: whatever the desk's ROOM, DOOR, LAW", () -> {
            AdmissionDesk x = lawful(1, "1=2", "1-5 1-5");
            is(5, x.plain(5));
            is(0, x.plain(4));
        });
    }

    private static void ideal() {
        told("terms 3, IDEAL: ROOM 1, the one asked for again soonest stays", () -> {
            is(1, desk("1 2 1").ideal(1));
            is(1, desk("1 2 2").ideal(1));
            is(3, desk("1 2 3 1 1 1").ideal(1));
        });
        told("terms 3, IDEAL: also it itself goes, if it is asked for again latest", () -> {
            is(2, desk("1 2 3 1 2 3").ideal(2));
            is(0, desk("1 2 3").ideal(2));
            is(2, desk("1 2 9 1 2").ideal(2));
        });
        told("terms 3, IDEAL: one that is asked for never goes ahead of one asked for late", () -> {
            is(50, desk("1 2 3 3*50 40-85 1").ideal(1));
            is(51, desk("1 2 3 3*50 40-85 1").ideal(2));
            is(52, desk("1 2 3 3*50 4 1 3").ideal(2));
        });
        told("terms 3, IDEAL: the 100th ASK is later than none, but goes behind never", () -> {
            AdmissionDesk x = desk("1 2-99 1");
            is(100, x.count(17));
            is(1, x.ideal(1));
            is(1, x.ideal(64));
        });
        told("terms 3, IDEAL: as many KEYS as ROOM, none goes", () -> {
            is(5, desk("1-5 1-5").ideal(5));
            is(64, desk("1-64 1-36").ideal(64) + 28);
        });
        told("terms 3, IDEAL: one KEY more than ROOM, one goes", () -> {
            is(4, desk("1-5 1-5").ideal(4));
            is(4, desk("1-6 1-6").ideal(5) - 1);
            is(34, desk("1-65 1-35").ideal(64) - 1);
            is(2, desk("1-3 1-3").ideal(2));
        });
        told("terms 3, IDEAL: a HIT tells when it is asked for again", () ->
            is(3, desk("1 2 1 2 3 2").ideal(2)));
        told("terms 3, IDEAL: one that was a HIT and is never asked for again goes ahead of one that will be", () -> {
            is(3, desk("1 1 2 3 2 3").ideal(2));
            is(4, desk("1 1 2 3 2 3 1").ideal(3));
            is(3, desk("1 1 2 3 2 3 1").ideal(2));
        });
        told("promise 26, ideal: the same answer again and again, whatever ROOM ahead", () -> {
            AdmissionDesk x = desk("1-3 1-3 3 1 2 1-20 1");
            int[] due = {4, 7, 10};
            for (int turn = 0; turn < 3; turn++) {
                for (int room = 3; room >= 1; room--) {
                    is(due[room - 1], x.ideal(room));
                }
                x.ideal(64);
                x.plain(9);
            }
        });
        told("terms 3, IDEAL: none without HISTORY, none at first", () -> {
            is(0, new AdmissionDesk().ideal(1));
            is(0, new AdmissionDesk().ideal(64));
            is(0, desk("7").ideal(64));
            is(0, desk("7 0-99").ideal(64));
        });
    }

    private static void enough() {
        told("terms 3, ENOUGH: 0 HITS and fewer, ROOM 1", () -> {
            is(1, new AdmissionDesk().enough(0));
            is(1, new AdmissionDesk().enough(-1));
            is(1, desk("1-65").enough(Integer.MIN_VALUE));
        });
        told("terms 3, ENOUGH: as many as PLAIN of a ROOM has, one more, one fewer", () -> {
            AdmissionDesk x = desk("1-3 1-3 3 3");
            is(2, x.plain(2));
            is(5, x.plain(3));
            is(1, x.enough(1));
            is(1, x.enough(2));
            is(3, x.enough(3));
            is(3, x.enough(5));
            is(NONE, x.enough(6));
        });
        told("terms 3, ENOUGH: ROOM 64 is, 65 were too many", () -> {
            is(64, desk("1-64 1").enough(1));
            is(63, desk("1-63 1").enough(1));
            is(NONE, desk("1-65 1").enough(1));
        });
        told("promise 27, enough: NONE without HISTORY, and far above", () -> {
            is(NONE, new AdmissionDesk().enough(1));
            is(NONE, desk("7*5").enough(Integer.MAX_VALUE));
            is(1, desk("7*100").enough(99));
            is(NONE, desk("7*100").enough(100));
            is(NONE, desk("7*51").enough(51));
        });
    }

    private static void neededIs(String name, int due, AdmissionDesk x, String law, int key, int victim) {
        told("terms 3, NEEDED: " + name, () -> {
            if (!law.isEmpty()) {
                law(x, law);
            }
            is(due, x.needed(key, victim));
            is(due, x.needed(key, victim));
        });
    }

    private static void needed() {
        neededIs("0, it would WIN now", 0, open("1*3 2*2"), "", 1, 2);
        neededIs("1, as they are alike", 1, open("1*3 2*3"), "", 1, 2);
        neededIs("4 for a KEY that never came against 3", 4, open("2*3"), "", 1, 2);
        neededIs("the DOORMAN's 1 too", 1, desk("2"), "vict = 1 and cand = 1", 1, 2);
        neededIs("a DOORMAN, a KEY that never came against 3", 4, desk("2*3"), "", 1, 2);
        neededIs("15 to come to 15", 15, open("2"), "cand = 15", 1, 2);
        neededIs("16 to come to 16 with a DOORMAN", 16, desk("2"), "cand = 16", 1, 2);
        neededIs("NONE against 15 without a DOORMAN", NONE, open("2*15"), "", 1, 2);
        neededIs("a KEY against itself by ESTIMATES, NONE", NONE, open("1*3"), "", 1, 1);
        neededIs("a KEY against itself by a law", 2, open("1*3"), "cand = 5 and vict = 5", 1, 1);
        neededIs("a law that never holds, NONE", NONE, open("1"), "1 = 2", 1, 2);
        neededIs("a law that always holds, 0", 0, open("1"), "1 = 1", 1, 2);
        neededIs("asks, hits and out stay as they are, NONE", NONE, open("1"), "asks + hits + out > 1", 1, 2);
        neededIs("asks, hits and out as they are now, 0", 0, open("1"), "asks + hits + out = 1", 1, 2);
        for (int added = 11; added <= 13; added++) {
            // Halved at 22: half of what has been counted by then, and 15 with so many more.
            AdmissionDesk x = open("50-" + (49 + added));
            x.tell(3, 22);
            neededIs("20 just, 21 too many, ADDED " + added, added == 12 ? 20 : NONE, x, "cand = 15", 1, 2);
        }
        told("terms 3, NEEDED: HALVED on the way, the other one's counters too", () -> {
            AdmissionDesk x = open("2*6");
            x.tell(3, 10);
            // 4 and 6 at ADDED 10 are 2 and 3.
            law(x, "vict = 3");
            is(4, x.needed(1, 2));
            law(x, "vict = 3 and cand = 2");
            is(4, x.needed(1, 2));
        });
        told("terms 3, NEEDED: the other one's counters rise where they meet", () -> {
            AdmissionDesk x = open("");
            x.tell(5, 1);
            is(4, x.meets(99999, 651));
            law(x, "vict = 7");
            is(7, x.needed(651, 99999));
            x.free();
            is(NONE, x.needed(651, 99999));
        });
        told("terms 3, NEEDED: NOTED by the first COUNTING, nothing stays", () -> {
            AdmissionDesk x = new AdmissionDesk();
            is(1, x.needed(1, 2));
            is(false, x.noted(1));
            is(0, x.count(14));
            is(0, x.count(4));
            is(0, x.count(5));
            is(0, x.estimate(1));
            is(1, x.needed(1, 2));
        });
    }

    private static void twinIs(AdmissionDesk x, int wide, int key) {
        int due = -1;
        for (int other = 0; other < 1000; other++) {
            if (other != key && (due < 0 || rows(wide, key, other) > rows(wide, key, due))) {
                due = other;
            }
        }
        is(due, x.twin(key));
    }

    /** In how many rows two keys have one place. */
    private static int rows(int wide, int key, int other) {
        int n = 0;
        for (int row = 0; row < 4; row++) {
            n += Model.place(key, row, 16 * wide) == Model.place(other, row, 16 * wide) ? 1 : 0;
        }
        return n;
    }

    private static void twin() {
        for (int wide : new int[] {1, 4, 16}) {
            told("terms 3, TWIN: WIDE " + wide + ", KEYS 0, 1, 999, 1000, 99999", () -> {
                AdmissionDesk x = new AdmissionDesk();
                x.tell(5, wide);
                for (int key : new int[] {0, 1, 2, 500, 998, 999, 1000, 1001, 99999}) {
                    twinIs(x, wide, key);
                    is(true, x.twin(key) != key);
                }
            });
        }
        told("terms 3, TWIN: 999 is one, 1000 is none", () -> {
            AdmissionDesk x = new AdmissionDesk();
            boolean isThere = false;
            for (int key = 1000; key < 90000 && !isThere; key++) {
                int most = 0;
                for (int other = 0; other < 999; other++) {
                    most = Math.max(most, rows(4, key, other));
                }
                if (rows(4, key, 999) > most) {
                    isThere = true;
                    is(999, x.twin(key));
                }
            }
            is(true, isThere);
            // 1000 would be the nearest one.
            x.tell(5, 16);
            is(2, x.meets(2909, 1000));
            is(2, x.twin(2909));
        });
        told("terms 3, TWIN: 0 is one", () -> {
            AdmissionDesk x = new AdmissionDesk();
            x.tell(5, 16);
            is(0, x.twin(6));
        });
        told("terms 3, TWIN: whatever has been COUNTED", () -> is(new AdmissionDesk().twin(7), desk("7*9").twin(7)));
    }

    private static void pastIs(String name, String trace, int... due) {
        told("promise 31, past: " + name, () -> {
            AdmissionDesk x = desk(trace);
            for (int what = 0; what < 5; what++) {
                is(due[what], x.past(what));
            }
        });
    }

    private static void past() {
        pastIs("no HISTORY", "", 0, NONE, 0, 0, NONE);
        pastIs("one ASK", "7", 1, 7, 1, 1, NONE);
        pastIs("one ASK for KEY 0", "0", 1, 0, 1, 1, NONE);
        pastIs("a KEY twice, no ASK between", "7 7", 1, 7, 2, 1, 0);
        pastIs("a KEY twice, one ASK between", "7 8 7", 2, 7, 2, 2, 1);
        pastIs("no KEY twice", "9 8 7", 3, 7, 1, 3, NONE);
        pastIs("the least of several that are asked for most often", "9 9 8 8 7", 3, 8, 2, 2, 0);
        pastIs("one that is asked for once more often, though greater", "8 8 9 9 9", 2, 9, 3, 2, 0);
        pastIs("unlike KEYS at the beginning", "1 2 3 4 4 4", 4, 4, 3, 4, 0);
        pastIs("unlike KEYS at the end", "4 4 4 3 2 1", 4, 4, 3, 4, 0);
        pastIs("unlike KEYS in the middle, from one of two like ones to another one", "1 1 2 3 3 4", 4, 1, 2, 3, 0);
        pastIs("unlike KEYS that begin behind a KEY in the middle", "1 2 1 3 4", 4, 1, 2, 4, 1);
        pastIs("between two that are next to one another alone", "1 2 3 1 4 1", 4, 1, 3, 4, 2);
        pastIs("the widest of several KEYS", "1 2 2 3 4 1 3", 4, 1, 2, 4, 4);
        pastIs("98 ASKS between", "7 101-198 7", 99, 7, 2, 99, 98);
        pastIs("100 unlike KEYS", "1-100", 100, 1, 1, 100, NONE);
        pastIs("100 ASKS for one KEY", "7*100", 1, 7, 100, 1, 0);
        pastIs("of the latest 100 ASKS alone", "7*100 1-100", 100, 1, 1, 100, NONE);
        pastIs("a KEY twice, the eldest ASK of HISTORY the first one", "8 7 101-198 7", 99, 7, 2, 99, 98);
        pastIs("a KEY twice, one of them too old", "7 101-199 7", 100, 7, 1, 100, NONE);
    }

    private static void asked() {
        told("promise 32, asked: 0, 1, 100 times", () -> {
            is(0, new AdmissionDesk().asked(0));
            is(0, desk("7").asked(0));
            is(1, desk("7").asked(7));
            is(100, desk("7*100").asked(7));
            is(100, desk("7*100 7*9").asked(7));
        });
        told("promise 32, asked: the 101st last ASK does not count", () -> {
            is(1, desk("7 101-199").asked(7));
            is(0, desk("7 101-200").asked(7));
        });
    }

    private static void hotRow(AdmissionDesk x, int... keys) {
        for (int k = 0; k < keys.length; k++) {
            is(keys[k], x.hot(k));
        }
        is(NONE, x.hot(keys.length));
        is(NONE, x.hot(-1));
    }

    private static void hot() {
        told("terms 3, HOT: none in PARTS, NONE", () -> hotRow(new AdmissionDesk()));
        told("terms 3, HOT: one KEY", () -> hotRow(desk("7"), 7));
        told("terms 3, HOT: of like ones SAFE, TRIED, THE WINDOW", () -> {
            AdmissionDesk x = open("1 2*2 3*2 1");
            row(x, 3, 1);
            row(x, 2, 2);
            row(x, 1, 3);
            hotRow(x, 1, 2, 3);
        });
        told("terms 3, HOT: of like ones in each PART that one nearer to the front", () -> {
            AdmissionDesk x = open("1-6");
            x.halve();
            row(x, 2, 5, 4, 3, 2, 1);
            hotRow(x, 5, 4, 3, 2, 1, 6);
            AdmissionDesk y = shared(10, 50, 50, "1-5");
            hotRow(y, 5, 4, 3, 2, 1);
            AdmissionDesk z = open("1-4 1-3");
            z.halve();
            z.halve();
            hotRow(z, 3, 2, 1, 4);
        });
        told("terms 3, HOT: an ESTIMATE 1 above goes ahead of all PARTS", () -> {
            AdmissionDesk x = open("1 2*2 3*3 1");
            row(x, 3, 1);
            row(x, 2, 2);
            row(x, 1, 3);
            hotRow(x, 3, 1, 2);
            x.ask(3);
            x.ask(2);
            hotRow(x, 3, 2, 1);
        });
        told("terms 3, HOT: 64 KEYS", () -> {
            AdmissionDesk x = shared(64, 50, 50, "1-64");
            for (int n = 0; n < 5; n++) {
                x.halve();
            }
            is(32, x.hot(0));
            is(1, x.hot(31));
            is(64, x.hot(32));
            is(33, x.hot(63));
            is(NONE, x.hot(64));
        });
        told("terms 3, HOT: with the DOORMAN's 1", () -> {
            AdmissionDesk x = desk("1 2");
            x.halve();
            x.ask(3);
            hotRow(x, 3, 2, 1);
        });
    }

    private static void heat() {
        told("promise 34, heat: just that ESTIMATE, one more, one fewer", () -> {
            AdmissionDesk x = open("1*3 2*2 3");
            is(3, x.heat(1));
            is(2, x.heat(2));
            is(1, x.heat(3));
            is(0, x.heat(4));
        });
        told("promise 34, heat: of all three PARTS", () -> {
            AdmissionDesk x = open("1-3 1");
            row(x, 1, 3);
            row(x, 2, 2);
            row(x, 3, 1);
            is(3, x.heat(1));
            is(1, x.heat(2));
            trace(x, "3");
            is(2, x.heat(2));
            trace(x, "2");
            is(3, x.heat(2));
        });
        told("promise 34, heat: 0 and below, all in PARTS; none in PARTS", () -> {
            AdmissionDesk x = open("1-20");
            x.halve();
            is(10, x.heat(0));
            is(10, x.heat(-1));
            is(10, x.heat(Integer.MIN_VALUE));
            is(0, x.heat(1));
            is(0, x.heat(Integer.MAX_VALUE));
            is(0, new AdmissionDesk().heat(0));
            is(0, new AdmissionDesk().heat(-5));
        });
        told("promise 34, heat: 16 is the greatest ESTIMATE", () -> {
            is(1, desk("7*16").heat(16));
            is(0, desk("7*30").heat(17));
            is(0, open("7*30").heat(16));
            is(1, open("7*30").heat(15));
        });
        told("promise 34, heat: what went OUT does not count", () -> {
            AdmissionDesk x = shared(1, 10, 80, "7*5 8");
            is(5, x.estimate(7));
            is(0, x.heat(2));
            is(1, x.heat(1));
        });
    }

    private static void written(String name, String due, String trace) {
        told("terms 3, WRITTEN: " + name, () -> {
            AdmissionDesk x = desk(trace);
            is(due.length(), x.write());
            for (int k = 0; k < due.length() && k < 300; k++) {
                is(due.charAt(k), x.octet(k));
            }
            for (int k = Math.max(300, due.length() - 150); k < due.length(); k++) {
                is(due.charAt(k), x.octet(k));
            }
            is(NONE, x.octet(due.length()));
        });
    }

    private static void write() {
        written("no HISTORY, 0 bytes", "", "");
        written("one ASK", "7", "7");
        written("one ASK for KEY 0", "0", "0");
        written("one ASK for KEY 99999", "99999", "99999");
        written("two ASKS for one KEY", "7*2", "7 7");
        written("three ASKS for one KEY", "7*3", "7 7 7");
        written("two that go up by 1", "7-8", "7 8");
        written("three that go up by 1", "7-9", "7 8 9");
        written("two that go up by 2", "7 9", "7 9");
        written("two that go down by 1", "8 7", "8 7");
        written("for one KEY goes ahead of up, from that KEY on", "7*2 8", "7 7 8");
        written("up takes the first one of like ones with it", "7-8 8", "7 8 8");
        written("up takes the first one of three like ones with it", "7-8 8*2", "7 8 8 8");
        written("up, and up again from a lower one", "7-9 8-10", "7 8 9 8 9 10");
        written("up, and one that goes on by 2", "7-8 10", "7 8 10");
        written("9 and 10, 99 and 100, 9999 and 10000", "9-10 99-100 9999-10000", "9 10 99 100 9999 10000");
        written("each count of digits", "1 10 100 1000 10000", "1 10 100 1000 10000");
        written("0 and 1", "0-1 0*2 1", "0 1 0 0 1");
        written("99999, and 0 is not 1 above it", "99998-99999 0", "99998 99999 0");
        written("9 and 10 ASKS for one KEY", "7*9 8*10", "7*9 8*10");
        written("99 ASKS for one KEY", "8 7*99", "8 7*99");
        written("100 ASKS for one KEY", "7*100", "7*100");
        written("101 ASKS for one KEY, 100 of them in HISTORY", "7*100", "7*100 7");
        written("100 that go up by 1", "99900-99999", "99900-99999");
        written("what is too old is cut from a row of like ones", "7*2 1-98", "7*5 1-98");
        written("what is too old is cut from a row that goes up", "9-10 201-298", "7-10 201-298");
        StringBuilder longest = new StringBuilder("90000");
        for (int k = 1; k < 100; k++) {
            longest.append(k % 2 == 0 ? " 90000" : " 80000");
        }
        written("599 bytes, the most there are", longest.toString(), "(90000 80000)*50");
        told("promise 35, write: HISTORY is left as it is, and so is the TAPE", () -> {
            AdmissionDesk x = desk("7 7 8");
            tape(x, "1 2");
            is(5, x.write());
            is(5, x.write());
            history(x, 7, 7, 8);
            is(true, x.end(3));
        });
        told("promise 35, write: what is WRITTEN is a TRACE of HISTORY", () -> {
            AdmissionDesk x = desk("1-5 5 5 4 3 9-12 12 0 0 99998 99999 7");
            StringBuilder text = new StringBuilder();
            int bytes = x.write();
            for (int k = 0; k < bytes; k++) {
                text.append((char) x.octet(k));
            }
            AdmissionDesk y = desk(text.toString());
            is(x.count(17), y.count(0));
            for (int k = 0; k < x.count(17); k++) {
                is(x.history(k), y.history(k));
            }
        });
    }

    private static void octet() {
        told("promise 36, octet: NONE ahead of any write()", () -> {
            is(NONE, new AdmissionDesk().octet(0));
            is(NONE, desk("7").octet(0));
        });
        told("promise 36, octet: the first, the last byte, NONE behind it and below 0", () -> {
            AdmissionDesk x = desk("7 7 9");
            is(5, x.write());
            is('7', x.octet(0));
            is('9', x.octet(4));
            is(NONE, x.octet(5));
            is(NONE, x.octet(-1));
            is(NONE, x.octet(Integer.MAX_VALUE));
            is(NONE, x.octet(Integer.MIN_VALUE));
        });
        told("promise 36, octet: of what was WRITTEN latest, though more is asked for", () -> {
            AdmissionDesk x = desk("7");
            x.write();
            x.ask(8);
            is('7', x.octet(0));
            is(NONE, x.octet(1));
            is(3, x.write());
            is('-', x.octet(1));
            is('8', x.octet(2));
        });
        told("promise 36, octet: a shorter text leaves nothing of a longer one", () -> {
            AdmissionDesk x = desk("1 3 5 7 9");
            is(9, x.write());
            trace(x, "7*100");
            is(5, x.write());
            is('0', x.octet(4));
            is(NONE, x.octet(5));
            is(NONE, x.octet(8));
        });
        told("promise 36, octet: NONE of HISTORY that is empty", () -> {
            AdmissionDesk x = new AdmissionDesk();
            x.keep();
            x.ask(7);
            is(1, x.write());
            x.back();
            is('7', x.octet(0));
            is(0, x.write());
            is(NONE, x.octet(0));
        });
    }

    private static void keepAndBack() {
        told("promise 37, keep: how many ASKS there were, none and some", () -> {
            is(0, new AdmissionDesk().keep());
            is(1, desk("7").keep());
            is(500, desk("0-499").keep());
        });
        told("promise 37, keep: nothing but what is kept changes", () -> {
            AdmissionDesk x = unkept();
            x.keep();
            AdmissionDesk y = unkept();
            y.keep();
            y.keep();
            alike(y, x);
            AdmissionDesk z = unkept();
            alike(z, unkept());
            AdmissionDesk kept = unkept();
            kept.keep();
            alike(unkept(), kept, "back", "count behind back");
        });
        told("promise 37, keep: in place of what was kept ahead", () -> {
            AdmissionDesk x = desk("1-3");
            is(3, x.keep());
            x.ask(4);
            is(4, x.keep());
            x.ask(5);
            is(4, x.back());
            history(x, 1, 2, 3, 4);
        });
        told("promise 38, back: how many ASKS there were", () -> {
            AdmissionDesk x = desk("1-3");
            x.keep();
            trace(x, "4-9");
            is(9, x.count(0));
            is(3, x.back());
            is(3, x.count(0));
        });
        told("promise 38, back: what was kept stays, twice", () -> {
            AdmissionDesk x = desk("1-3");
            x.keep();
            for (int turn = 0; turn < 3; turn++) {
                trace(x, "4-9");
                x.tell(0, 2);
                is(3, x.back());
                history(x, 1, 2, 3);
                row(x, 1, 3);
                row(x, 2, 2, 1);
                is(10, x.count(8));
            }
        });
        told("promise 38, back: nothing is kept of what came behind", () -> {
            AdmissionDesk x = busy();
            x.keep();
            disturb(x);
            x.back();
            AdmissionDesk y = busy();
            y.keep();
            y.end(0);
            x.end(0);
            alike(y, x, "fault", "octet");
        });
        told("promise 38, back: to a new object", () -> {
            AdmissionDesk x = new AdmissionDesk();
            x.keep();
            disturb(x);
            is(0, x.back());
            x.end(0);
            AdmissionDesk y = new AdmissionDesk();
            y.keep();
            alike(y, x, "octet");
        });
        told("promise 38, back: the TAPE, fault() and what was WRITTEN stay", () -> {
            AdmissionDesk x = desk("1-3");
            tape(x, "1 x");
            x.keep();
            bad(ILLEGAL, x::trace);
            x.ask(9);
            x.write();
            tape(x, "5 6");
            x.back();
            is(2, x.fault());
            is('9', x.octet(4));
            is(true, x.end(3));
            x.trace();
            history(x, 1, 2, 3, 5, 6);
            is(NONE, x.fault());
            x.back();
            is(NONE, x.fault());
            is(false, x.end(1));
        });
        told("promise 38, back: THE LAW that was, and none that was", () -> {
            AdmissionDesk x = new AdmissionDesk();
            x.keep();
            law(x, "1=1");
            x.back();
            is(NONE, x.count(18));
            is(false, x.wins(1, 2));
            law(x, "1=1 or 1=1");
            x.keep();
            x.free();
            x.back();
            is(4, x.count(18));
            is(true, x.wins(1, 2));
        });
        told("promise 38, back: the PERIOD at hand, its HITS, the one ahead, the way", () -> {
            AdmissionDesk x = open("");
            x.tell(4, 10);
            trace(x, "1*6 2-5");
            trace(x, "5*4 10-15");
            is(10, x.count(7));
            trace(x, "15*3 20-24");
            x.keep();
            for (int turn = 0; turn < 2; turn++) {
                trace(x, "30-60 60*7");
                x.back();
                x.ask(24);
                is(10, x.count(7));
                x.ask(24);
                // 5 hits of ten are no fewer than 4: down, to 5.
                is(5, x.count(7));
                x.back();
                x.ask(70);
                x.ask(71);
                // 3 hits are fewer: up again.
                is(15, x.count(7));
            }
        });
    }

    /** Where the desk's DOOR goes from here, by hits or misses alone, or both. */
    private static String doors(AdmissionDesk x, int kind) {
        StringBuilder b = new StringBuilder();
        for (int n = 0; n < 24; n++) {
            x.ask(kind == 0 ? 7 : kind == 1 ? 500 + n : n % 3 == 0 ? 600 + n : 7);
            b.append(x.count(7)).append(' ');
        }
        return b.toString();
    }

    private static AdmissionDesk climber(String trace) {
        AdmissionDesk x = open("7");
        x.tell(1, 50);
        x.tell(4, 10);
        trace(x, trace);
        return x;
    }

    private static void climbKept() {
        String[] ways = {"7*3 10-16 7*2 20-27 7*4 30-33", "7*10 7*5 20-24 7*3", "7*2 10-17 7*1 20-28 7*7", "7*9", "10-12"};
        String[] between = {"7*25", "40-63", "7*13", "40-52 7*4", "7*4 40-50", "40*5 41-48 40*10"};
        for (int w = 0; w < ways.length; w++) {
            String way = ways[w];
            told("promise 38, back: the PERIOD at hand and the way as kept, " + way, () -> {
                for (int kind = 0; kind < 3; kind++) {
                    String due = doors(climber(way), kind);
                    for (String other : between) {
                        AdmissionDesk x = climber(way);
                        x.keep();
                        trace(x, other);
                        x.back();
                        is(true, due.equals(doors(x, kind)));
                    }
                    for (int period : new int[] {0, 10, 11, 1000}) {
                        AdmissionDesk x = climber(way);
                        x.keep();
                        x.tell(4, period);
                        trace(x, "7*5");
                        x.back();
                        is(true, due.equals(doors(x, kind)));
                    }
                }
            });
        }
    }

    private static void disturb(AdmissionDesk x) {
        trace(x, "60-99 1-30 7*9");
        x.tell(0, 64);
        x.tell(1, 70);
        x.tell(2, 5);
        x.tell(3, 5000);
        x.tell(4, 77);
        x.tell(5, 7);
        law(x, "key = 1");
        x.doorman(x.count(13) == 0);
        trace(x, "60-99 1-30 7*9");
        x.needed(1, 2);
        x.best(true);
        x.halve();
        x.write();
        tape(x, "1 2 3");
    }
}
