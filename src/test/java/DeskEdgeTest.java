/** The edges of section 2 of the Terms: PARTS, ASKS, contests, OUT, CLIMBING, FITTED. */
public final class DeskEdgeTest extends Cases {
    public static void main(String[] args) {
        newObject();
        shares();
        asks();
        misses();
        contests();
        latest();
        out();
        climbing();
        climbingTurns();
        periodTold();
        fittedSafe();
        fittedWindow();
        fittedMain();
        keys();
        finish();
    }

    private static void newObject() {
        told("promise 1, a new object: nothing is COUNTED", () -> {
            AdmissionDesk x = new AdmissionDesk();
            counts(x, 0, 0, 0, 0, 0, 0, 0, 10, 10, 80, 200, 0, 4, 1, 0, 0, 0, 0, NONE, 0, 0);
            is(0, x.estimate(0));
            is(0, x.estimate(99999));
        });
        told("promise 1, a new object: all PARTS are empty", () -> {
            AdmissionDesk x = new AdmissionDesk();
            for (int part = 1; part <= 3; part++) {
                row(x, part);
            }
            isFor(x, 1, 2, 7);
            is(NONE, x.out(0));
            is(NONE, x.hot(0));
            latest(x, NONE, NONE, NONE, NONE);
        });
        told("promise 1, a new object: it knows nothing of another one", () -> {
            AdmissionDesk x = busy();
            AdmissionDesk y = new AdmissionDesk();
            x.ask(7);
            counts(y, 0, 0, 0, 0, 0, 0, 0, 10, 10, 80, 200, 0, 4, 1, 0, 0, 0, 0, NONE, 0, 0);
            y.ask(8);
            is(0, y.where(7));
            is(0, x.where(8));
        });
        told("what it is: the 512th call is answered as the first ones", () -> {
            AdmissionDesk x = new AdmissionDesk();
            for (int n = 1; n < 512; n++) {
                is(n == 1 ? 0 : 1, x.ask(7));
            }
            is(511, x.count(0));
        });
    }

    private static void isFor(String name, int room, int door, int kept, int window, int tried, int safe) {
        told("terms 2, " + name, () -> isFor(shared(room, door, kept, ""), window, tried, safe));
    }

    private static void shares() {
        isFor("ROOM 1: THE WINDOW is for 1, THE MAIN PART for none", 1, 10, 80, 1, 0, 0);
        isFor("ROOM 1, DOOR 99, KEPT 99: 1 at least, none is left", 1, 99, 99, 1, 0, 0);
        isFor("ROOM 1, DOOR 1, KEPT 0: 1 at least", 1, 1, 0, 1, 0, 0);
        isFor("ROOM 2, DOOR 99: 1.98 is 1", 2, 99, 99, 1, 1, 0);
        isFor("ROOM 9, DOOR 10: 0.9 is 1 at least", 9, 10, 80, 1, 2, 6);
        isFor("ROOM 10, DOOR 10, KEPT 80: as at first", 10, 10, 80, 1, 2, 7);
        isFor("ROOM 19, DOOR 10: 1.9 is 1", 19, 10, 80, 1, 4, 14);
        isFor("ROOM 20, DOOR 10: 2", 20, 10, 80, 2, 4, 14);
        isFor("ROOM 21, DOOR 10: 2.1 is 2", 21, 10, 80, 2, 4, 15);
        isFor("ROOM 3, DOOR 66: 1.98 is 1", 3, 66, 50, 1, 1, 1);
        isFor("ROOM 3, DOOR 67: 2.01 is 2", 3, 67, 99, 2, 1, 0);
        isFor("ROOM 50, DOOR 2: 1 just", 50, 2, 50, 1, 25, 24);
        isFor("ROOM 49, DOOR 2: 0.98 is 1 at least", 49, 2, 50, 1, 24, 24);
        isFor("ROOM 64, DOOR 1, KEPT 0: THE WINDOW 1, SAFE none", 64, 1, 0, 1, 63, 0);
        isFor("ROOM 64, DOOR 1, KEPT 99: 62.37 of 63 is 62", 64, 1, 99, 1, 1, 62);
        isFor("ROOM 64, DOOR 99, KEPT 0: 63.36 is 63, 1 is left", 64, 99, 0, 63, 1, 0);
        isFor("ROOM 64, DOOR 99, KEPT 99: 0.99 of 1 is none", 64, 99, 99, 63, 1, 0);
        isFor("ROOM 64, DOOR 50, KEPT 50: halves", 64, 50, 50, 32, 16, 16);
        isFor("KEPT 50 of 9: 4.5 is 4", 10, 10, 50, 1, 5, 4);
        isFor("KEPT 11 of 9: 0.99 is none", 10, 10, 11, 1, 9, 0);
        isFor("KEPT 12 of 9: 1.08 is 1", 10, 10, 12, 1, 8, 1);
        told("terms 2, PARTS: TRIED may have more KEYS than it is for, while SAFE has fewer", () -> {
            AdmissionDesk x = open("1-10");
            isFor(x, 1, 2, 7);
            row(x, 2, 9, 8, 7, 6, 5, 4, 3, 2, 1);
            row(x, 3);
        });
    }

    private static void asks() {
        told("terms 2, AN ASK: in THE WINDOW at its front, it stays there", () -> {
            AdmissionDesk x = shared(10, 30, 80, "1-3");
            is(1, x.ask(3));
            row(x, 1, 3, 2, 1);
        });
        told("terms 2, AN ASK: in THE WINDOW at its end, it goes to the front there", () -> {
            AdmissionDesk x = shared(10, 30, 80, "1-3");
            is(1, x.ask(1));
            row(x, 1, 1, 3, 2);
            is(1, x.ask(3));
            row(x, 1, 3, 1, 2);
            row(x, 2);
            is(2, x.count(1));
        });
        told("terms 2, AN ASK: in SAFE at its end, in the middle, at its front", () -> {
            AdmissionDesk x = open("1-5 1-3");
            row(x, 3, 3, 2, 1);
            is(3, x.ask(1));
            row(x, 3, 1, 3, 2);
            is(3, x.ask(3));
            row(x, 3, 3, 1, 2);
            is(3, x.ask(3));
            row(x, 3, 3, 1, 2);
            row(x, 2, 4);
        });
        told("terms 2, AN ASK: in SAFE that is full, nothing leaves it", () -> {
            AdmissionDesk x = shared(5, 20, 50, "1-5 1 2");
            isFor(x, 1, 2, 2);
            row(x, 3, 2, 1);
            is(3, x.ask(1));
            row(x, 3, 1, 2);
            row(x, 2, 4, 3);
        });
        told("terms 2, AN ASK: in TRIED, SAFE has one fewer than it is for, nothing leaves it", () -> {
            AdmissionDesk x = shared(5, 20, 50, "1-5 1");
            is(2, x.ask(4));
            row(x, 3, 4, 1);
            row(x, 2, 3, 2);
        });
        told("terms 2, AN ASK: in TRIED, SAFE has just what it is for, its last one goes to the front of TRIED", () -> {
            AdmissionDesk x = shared(5, 20, 50, "1-5 1 2");
            is(2, x.ask(3));
            row(x, 3, 3, 2);
            row(x, 2, 1, 4);
            is(0, x.count(2));
            is(3, x.count(1));
        });
        told("terms 2, AN ASK: in TRIED, SAFE is for none, it comes back to the front of TRIED", () -> {
            AdmissionDesk x = shared(5, 20, 0, "1-5");
            is(2, x.ask(1));
            row(x, 3);
            row(x, 2, 1, 4, 3, 2);
            is(1, x.count(1));
        });
        told("promise 8, ask: 0, 1, 2, 3 as it was ahead of the ASK", () -> {
            AdmissionDesk x = open("");
            is(0, x.ask(7));
            is(1, x.ask(7));
            is(0, x.ask(8));
            is(2, x.ask(7));
            is(3, x.ask(7));
            is(5, x.count(0));
            is(3, x.count(1));
        });
        told("promise 9, where: 0 of what never came, of what went OUT, of a new object's KEY", () -> {
            AdmissionDesk x = shared(1, 10, 80, "7 8");
            is(0, x.where(7));
            is(1, x.where(8));
            is(0, x.where(9));
            is(0, new AdmissionDesk().where(0));
        });
    }

    private static void misses() {
        told("terms 2, A MISS: THE WINDOW has one fewer than it is for, no CANDIDATE", () -> {
            AdmissionDesk x = shared(10, 30, 80, "1-2");
            x.ask(3);
            row(x, 1, 3, 2, 1);
            latest(x, NONE, NONE, NONE, NONE);
        });
        told("terms 2, A MISS: THE WINDOW has just what it is for, its last one is the CANDIDATE", () -> {
            AdmissionDesk x = shared(10, 30, 80, "1-3");
            x.ask(4);
            row(x, 1, 4, 3, 2);
            row(x, 2, 1);
            latest(x, 1, NONE, NONE, NONE);
        });
        told("terms 2, A MISS: THE MAIN PART has one fewer than it is for, no contest", () -> {
            AdmissionDesk x = shared(5, 20, 50, "1-4");
            x.ask(5);
            row(x, 2, 4, 3, 2, 1);
            latest(x, 4, NONE, NONE, NONE);
            is(0, x.count(19) + x.count(20) + x.count(2));
        });
        told("terms 2, A MISS: THE MAIN PART has just what it is for, a contest", () -> {
            AdmissionDesk x = shared(5, 20, 50, "1-5");
            x.ask(6);
            row(x, 2, 4, 3, 2, 1);
            latest(x, 5, 1, 5, 0);
            is(0, x.count(19));
            is(1, x.count(20));
            is(1, x.count(2));
        });
        told("terms 2, A MISS: SAFE counts for THE MAIN PART too", () -> {
            AdmissionDesk x = shared(5, 20, 50, "1-4 1 2");
            is(1, x.part(2, 0));
            is(2, x.part(3, 0));
            x.ask(5);
            latest(x, 4, NONE, NONE, NONE);
            x.ask(6);
            latest(x, 5, 3, 5, 0);
        });
        told("terms 2, A MISS: THE MAIN PART is for none, the CANDIDATE goes OUT without a contest", () -> {
            AdmissionDesk x = shared(1, 10, 80, "7*5 8");
            latest(x, 7, NONE, 7, NONE);
            row(x, 1, 8);
            outs(x, 7);
            is(0, x.count(19) + x.count(20));
            is(1, x.count(2));
        });
        told("terms 2, A MISS: THE MAIN PART is for none, a law that always holds helps nobody", () -> {
            AdmissionDesk x = shared(1, 10, 80, "");
            law(x, "1 = 1");
            trace(x, "7 8");
            latest(x, 7, NONE, 7, NONE);
        });
        told("promise 8, ask: a MISS is answered 0, also where it wins nothing", () -> {
            AdmissionDesk x = shared(1, 10, 80, "7");
            is(0, x.ask(8));
            is(0, x.ask(7));
            is(0, x.count(1));
        });
    }

    /** 2 has been asked for so many times, 1 four times: 2 is the candidate, 1 the victim. */
    private static AdmissionDesk contest(int times) {
        return shared(2, 50, 0, "1*4 2*" + times + " 3");
    }

    private static void contests() {
        told("terms 2, a contest without a text: an ESTIMATE below that of the VICTIM loses", () -> {
            AdmissionDesk x = contest(3);
            latest(x, 2, 1, 2, 0);
            row(x, 2, 1);
        });
        told("terms 2, a contest without a text: an ESTIMATE as great as that of the VICTIM loses", () -> {
            AdmissionDesk x = contest(4);
            latest(x, 2, 1, 2, 0);
            row(x, 2, 1);
            outs(x, 2);
        });
        told("terms 2, a contest without a text: an ESTIMATE 1 above that of the VICTIM wins", () -> {
            AdmissionDesk x = contest(5);
            latest(x, 2, 1, 1, 1);
            row(x, 2, 2);
            outs(x, 1);
            is(1, x.count(19));
            is(0, x.count(20));
        });
        told("terms 2, a contest: 15 against 15 loses, there is no 16th", () -> {
            AdmissionDesk x = shared(2, 50, 0, "1*15 2*30 3");
            latest(x, 2, 1, 2, 0);
        });
        told("terms 2, a contest: the CANDIDATE who wins comes to the front of TRIED, its last one goes", () -> {
            AdmissionDesk x = shared(5, 20, 0, "1-4 5*2 6");
            latest(x, 5, 1, 1, 1);
            row(x, 2, 5, 4, 3, 2);
        });
        told("terms 2, a contest: the VICTIM is the last one of TRIED, though SAFE has a colder one", () -> {
            AdmissionDesk x = shared(3, 34, 50, "1 2*5 3 1 3*5");
            row(x, 3, 1);
            row(x, 2, 2);
            is(true, x.estimate(1) < x.estimate(2));
            x.ask(4);
            latest(x, 3, 2, 2, 1);
            row(x, 3, 1);
            row(x, 2, 3);
        });
        told("terms 2, a contest: the ESTIMATES are those behind COUNTING the ASK", () -> {
            // 651 and 99999 have all counters in common: who is asked for makes the candidate hotter.
            AdmissionDesk x = shared(2, 50, 0, "");
            x.tell(5, 1);
            law(x, "cand = 2");
            trace(x, "7 651");
            is(1, x.estimate(651));
            x.ask(99999);
            latest(x, 651, 7, 7, 1);
        });
        told("terms 2, THE LAW: hits, asks, out, the ASK at hand being one of them", () -> {
            AdmissionDesk x = shared(2, 50, 0, "");
            law(x, "asks = 4 and hits = 1 and out = 0 and room = 2 and door = 50");
            trace(x, "1 2*2 3");
            latest(x, 2, 1, 1, 1);
            law(x, "asks = 5 and hits = 1 and out = 1");
            x.ask(4);
            latest(x, 3, 2, 2, 1);
        });
        told("terms 2, THE LAW: wins() tells of now, no ASK being at hand", () -> {
            AdmissionDesk x = shared(2, 50, 0, "1 2*2 3");
            law(x, "asks = 4 and hits = 1 and out = 1");
            is(true, x.wins(7, 8));
            is(4, x.count(0));
        });
        told("promise 20, wins: a KEY against itself, against what never came", () -> {
            AdmissionDesk x = open("1*2");
            is(false, x.wins(1, 1));
            is(true, x.wins(1, 2));
            is(false, x.wins(2, 1));
            is(false, x.wins(2, 3));
        });
        told("promise 39, count: 19 WON, 20 lost, of contests alone", () -> {
            AdmissionDesk x = shared(2, 50, 0, "1 2*2 3*3 4 5");
            is(2, x.count(19));
            is(1, x.count(20));
            x.wins(3, 5);
            x.needed(5, 3);
            x.again(50);
            x.tell(0, 1);
            x.ask(6);
            is(2, x.count(19));
            is(1, x.count(20));
            is(5, x.count(2));
        });
    }

    private static void latest() {
        told("promise 12, latest: NONE each ahead of any MISS", () ->
            latest(new AdmissionDesk(), NONE, NONE, NONE, NONE));
        told("promise 12, latest: a hit leaves it", () -> {
            AdmissionDesk x = contest(5);
            x.ask(3);
            latest(x, 2, 1, 1, 1);
            x.ask(2);
            latest(x, 2, 1, 1, 1);
        });
        told("promise 12, latest: a MISS without a CANDIDATE takes all away", () -> {
            AdmissionDesk x = contest(5);
            x.tell(0, 10);
            x.ask(4);
            latest(x, NONE, NONE, NONE, NONE);
        });
        told("promise 12, latest: a MISS without a contest takes VICTIM, OUT and WON away", () -> {
            AdmissionDesk x = contest(5);
            x.tell(0, 3);
            x.tell(1, 1);
            x.ask(4);
            latest(x, 3, NONE, NONE, NONE);
        });
        told("promise 12, latest: what is FITTED leaves it", () -> {
            AdmissionDesk x = contest(5);
            x.tell(0, 1);
            outs(x, 2, 1);
            latest(x, 2, 1, 1, 1);
        });
    }

    private static void out() {
        told("terms 2, OUT: 15 that went OUT", () -> {
            AdmissionDesk x = shared(1, 10, 80, "1-16");
            outs(x, 15, 14, 13, 12, 11, 10, 9, 8, 7, 6, 5, 4, 3, 2, 1);
            is(15, x.count(2));
        });
        told("terms 2, OUT: 16 that went OUT, k 15 is the last one", () -> {
            AdmissionDesk x = shared(1, 10, 80, "1-17");
            outs(x, 16, 15, 14, 13, 12, 11, 10, 9, 8, 7, 6, 5, 4, 3, 2, 1);
            is(16, x.count(2));
        });
        told("terms 2, OUT: of 17 the eldest is none any more", () -> {
            AdmissionDesk x = shared(1, 10, 80, "1-18");
            outs(x, 17, 16, 15, 14, 13, 12, 11, 10, 9, 8, 7, 6, 5, 4, 3, 2);
            is(17, x.count(2));
            x.ask(1);
            is(0, x.count(3));
        });
        told("terms 2, OUT: the latest one is asked for again", () -> {
            AdmissionDesk x = shared(1, 10, 80, "1-4 3");
            is(1, x.count(3));
            outs(x, 4, 2, 1);
        });
        told("terms 2, OUT: the 16th is asked for again, though one goes OUT by that ASK", () -> {
            AdmissionDesk x = shared(1, 10, 80, "1-17");
            x.ask(1);
            is(1, x.count(3));
            outs(x, 17, 16, 15, 14, 13, 12, 11, 10, 9, 8, 7, 6, 5, 4, 3, 2);
        });
        told("terms 2, OUT: one that is asked for again is none, then goes OUT again", () -> {
            AdmissionDesk x = shared(1, 10, 80, "1 2 1");
            is(1, x.count(3));
            outs(x, 2);
            x.ask(3);
            outs(x, 1, 2);
            is(3, x.count(2));
            x.ask(1);
            is(2, x.count(3));
        });
        told("terms 2, OUT: a hit, and what never went OUT, are no REGRETS", () -> {
            AdmissionDesk x = shared(1, 10, 80, "1 2 2 3");
            is(0, x.count(3));
            outs(x, 2, 1);
        });
        told("terms 2, OUT: what went OUT when FITTED is asked for again", () -> {
            AdmissionDesk x = shared(3, 34, 50, "1-3");
            x.tell(0, 1);
            is(2, x.count(2));
            outs(x, 2, 1);
            x.ask(1);
            is(1, x.count(3));
            outs(x, 3, 2);
        });
        told("promise 13, out: NONE below 0 and where nothing went OUT", () -> {
            is(NONE, new AdmissionDesk().out(0));
            is(NONE, shared(1, 10, 80, "1-3").out(-1));
        });
    }

    /** Asks for keys that never came, then again and again for the last one: so many hits in ten asks. */
    private static int period(AdmissionDesk x, int fresh, int hits) {
        String first = hits < 10 ? fresh + "-" + (fresh + 9 - hits) : "";
        trace(x, first + (hits > 0 ? " " + (hits < 10 ? fresh + 9 - hits : fresh - 1) + "*" + hits : ""));
        return hits < 10 ? fresh + 10 - hits : fresh;
    }

    /** The DOOR behind each period of ten asks with so many hits. */
    private static void doors(String name, int door, int[] hits, int... due) {
        told(name, () -> {
            AdmissionDesk x = open("");
            x.tell(0, 1);
            x.tell(1, door);
            x.tell(4, 10);
            int fresh = 1;
            for (int k = 0; k < hits.length; k++) {
                int before = x.count(1);
                fresh = period(x, fresh, hits[k]);
                is(before + hits[k], x.count(1));
                is(due[k], x.count(7));
            }
        });
    }

    private static void climbing() {
        told("terms 2, CLIMBING: PERIOD 0 at first, never", () -> {
            AdmissionDesk x = desk("0-499");
            trace(x, "0-499");
            is(0, x.count(11));
            is(10, x.count(7));
        });
        told("terms 2, CLIMBING: PERIOD 10, not behind 9 ASKS, behind 10, not behind 19, behind 20", () -> {
            AdmissionDesk x = open("");
            x.tell(4, 10);
            trace(x, "1-9");
            is(10, x.count(7));
            x.ask(10);
            is(15, x.count(7));
            trace(x, "11-19");
            is(15, x.count(7));
            x.ask(20);
            is(20, x.count(7));
        });
        told("terms 2, CLIMBING: PERIOD 11, not behind 10 ASKS, behind 11", () -> {
            AdmissionDesk x = open("");
            x.tell(4, 11);
            trace(x, "1-10");
            is(10, x.count(7));
            x.ask(10);
            is(15, x.count(7));
        });
        told("terms 2, CLIMBING: PERIOD 1000, not behind 999 ASKS, behind 1000", () -> {
            AdmissionDesk x = open("");
            x.tell(4, 1000);
            trace(x, "0-498");
            trace(x, "0-499");
            is(999, x.count(0));
            is(10, x.count(7));
            x.ask(7);
            is(15, x.count(7));
        });
        told("terms 2, CLIMBING: behind the ASK, its contest knows the DOOR of ahead", () -> {
            AdmissionDesk x = shared(2, 10, 0, "");
            x.tell(4, 10);
            law(x, "door = 10");
            trace(x, "1-10");
            is(1, x.latest(3));
            is(15, x.count(7));
            x.ask(11);
            is(0, x.latest(3));
        });
        told("terms 2, CLIMBING: PARTS are FITTED, the last ones of THE WINDOW go to TRIED, then OUT", () -> {
            AdmissionDesk x = shared(20, 10, 0, "1-20");
            row(x, 1, 20, 19);
            is(18, x.part(2, 0));
            x.tell(1, 15);
            x.ask(21);
            row(x, 1, 21, 20, 19);
            is(17, x.part(2, 0));
            is(1, x.count(2));
            x.tell(4, 10);
            trace(x, "21*10");
            is(20, x.count(7));
            is(4, x.part(1, 1));
            is(16, x.part(2, 0));
            is(2, x.count(2));
            trace(x, "21*9 22");
            is(15, x.count(7));
            row(x, 1, 22, 21, 20);
            is(19, x.at(2, 0));
            is(17, x.part(2, 0));
            is(2, x.count(2));
        });
        told("promise 12, latest: 2 is who went OUT by the contest, though CLIMBING lets another one go", () -> {
            AdmissionDesk x = shared(20, 15, 0, "1-20");
            x.tell(4, 10);
            trace(x, "20*9 30");
            is(20, x.count(7));
            latest(x, 18, 1, 18, 0);
            outs(x, 1, 18);
        });
    }

    private static void climbingTurns() {
        doors("terms 2, CLIMBING: 0 HITS are not fewer than 0 for the first one, up", 10, new int[] {0, 0, 0}, 15, 20, 25);
        doors("terms 2, CLIMBING: as many HITS as ahead, the way stays", 10, new int[] {3, 3, 3}, 15, 20, 25);
        doors("terms 2, CLIMBING: one HIT more than ahead, the way stays", 10, new int[] {3, 4, 5}, 15, 20, 25);
        doors("terms 2, CLIMBING: one HIT fewer than ahead, the way turns", 10, new int[] {3, 2, 2, 3}, 15, 10, 5, 1);
        doors("terms 2, CLIMBING: it turns again and again", 10, new int[] {9, 8, 7, 6, 5}, 15, 10, 15, 10, 15);
        doors("terms 2, CLIMBING: only the PERIOD ahead is looked at", 30, new int[] {5, 3, 4, 4}, 35, 30, 25, 20);
        doors("terms 2, CLIMBING: 10 HITS of 10 and 9 of 10", 30, new int[] {1, 10, 10, 9}, 35, 40, 45, 40);
        doors("terms 2, CLIMBING: DOOR 93 and up", 93, new int[] {0, 0, 0}, 98, 99, 99);
        doors("terms 2, CLIMBING: DOOR 94 is 99, and stays", 94, new int[] {0, 0}, 99, 99);
        doors("terms 2, CLIMBING: DOOR 95 is 99", 95, new int[] {0}, 99);
        doors("terms 2, CLIMBING: DOOR 99 stays, then 94 and 99", 99, new int[] {3, 2, 1}, 99, 94, 99);
        doors("terms 2, CLIMBING: DOOR 2 up 7, down 2, down 1, down 1", 2, new int[] {3, 2, 2, 2}, 7, 2, 1, 1);
        doors("terms 2, CLIMBING: DOOR 1 up 6, down 1, down 1, up 6", 1, new int[] {3, 2, 2, 1}, 6, 1, 1, 6);
        told("terms 2, CLIMBING: DOOR 5 down is 1, 6 down is 1, 7 down is 2", () -> {
            for (int door = 5; door <= 7; door++) {
                AdmissionDesk x = open("");
                x.tell(4, 10);
                period(x, 1, 3);
                x.tell(1, door);
                period(x, 100, 2);
                is(Math.max(1, door - 5), x.count(7));
            }
        });
    }

    private static void periodTold() {
        told("promise 21, tell: a PERIOD is told, a new one begins", () -> {
            AdmissionDesk x = open("");
            x.tell(4, 10);
            trace(x, "1-9");
            is(10, x.tell(4, 10));
            x.ask(10);
            is(10, x.count(7));
            trace(x, "11-18");
            is(10, x.count(7));
            x.ask(19);
            is(15, x.count(7));
        });
        told("promise 21, tell: a PERIOD is told, its HITS begin at 0", () -> {
            AdmissionDesk x = open("");
            x.tell(4, 10);
            trace(x, "1*9");
            x.tell(4, 10);
            int fresh = period(x, 10, 3);
            is(15, x.count(7));
            fresh = period(x, fresh, 3);
            is(20, x.count(7));
            period(x, fresh, 2);
            is(15, x.count(7));
        });
        told("promise 21, tell: a PERIOD is told, the way is up", () -> {
            AdmissionDesk x = open("");
            x.tell(4, 10);
            int fresh = period(x, 1, 3);
            fresh = period(x, fresh, 2);
            is(10, x.count(7));
            x.tell(4, 10);
            period(x, fresh, 2);
            is(15, x.count(7));
        });
        told("promise 21, tell: a PERIOD is told, none was ahead", () -> {
            AdmissionDesk x = open("");
            x.tell(4, 10);
            int fresh = period(x, 1, 5);
            x.tell(4, 10);
            period(x, fresh, 0);
            is(20, x.count(7));
        });
        told("promise 21, tell: PERIOD 0, never any more", () -> {
            AdmissionDesk x = open("");
            x.tell(4, 10);
            trace(x, "1-9");
            x.tell(4, 0);
            trace(x, "1-99");
            is(10, x.count(7));
        });
        told("promise 21, tell: a PERIOD that is none leaves the one at hand", () -> {
            AdmissionDesk x = open("");
            x.tell(4, 10);
            trace(x, "1-9");
            bad(ILLEGAL, () -> x.tell(4, 9));
            x.ask(10);
            is(15, x.count(7));
        });
        told("promise 21, tell: DOOR leaves the PERIOD at hand and the way", () -> {
            AdmissionDesk x = open("");
            x.tell(4, 10);
            int fresh = period(x, 1, 3);
            fresh = period(x, fresh, 2);
            trace(x, fresh + "-" + (fresh + 7) + " " + (fresh + 7));
            x.tell(1, 50);
            is(50, x.count(7));
            x.ask(fresh + 7);
            is(45, x.count(7));
        });
        told("promise 21, tell: ASKS ahead of the first PERIOD do not count for it", () -> {
            AdmissionDesk x = open("1-9");
            x.tell(4, 10);
            trace(x, "10-18");
            is(10, x.count(7));
            x.ask(19);
            is(15, x.count(7));
        });
    }

    private static void fittedSafe() {
        told("terms 2, FITTED: SAFE has just what it is for, none leaves it", () -> {
            AdmissionDesk x = open("1-8 1-4");
            row(x, 3, 4, 3, 2, 1);
            x.tell(2, 45);
            isFor(x, 1, 5, 4);
            row(x, 3, 4, 3, 2, 1);
            row(x, 2, 7, 6, 5);
        });
        told("terms 2, FITTED: SAFE has one more than it is for, its last one goes to the front of TRIED", () -> {
            AdmissionDesk x = open("1-8 1-4");
            x.tell(2, 44);
            isFor(x, 1, 6, 3);
            row(x, 3, 4, 3, 2);
            row(x, 2, 1, 7, 6, 5);
        });
        told("terms 2, FITTED: SAFE is for none, all go one by one", () -> {
            AdmissionDesk x = open("1-8 1-4");
            x.tell(2, 0);
            row(x, 3);
            row(x, 2, 4, 3, 2, 1, 7, 6, 5);
            is(0, x.count(2));
        });
        told("terms 2, FITTED: SAFE is for more, none comes", () -> {
            AdmissionDesk x = open("1-8 1-4");
            x.tell(2, 99);
            row(x, 3, 4, 3, 2, 1);
            row(x, 2, 7, 6, 5);
        });
        told("terms 2, FITTED: behind ROOM, where SAFE is for fewer by it", () -> {
            AdmissionDesk x = open("1-8 1-6");
            row(x, 3, 6, 5, 4, 3, 2, 1);
            x.tell(0, 8);
            isFor(x, 1, 2, 5);
            row(x, 3, 6, 5, 4, 3, 2);
            row(x, 2, 1, 7);
            is(0, x.count(2));
        });
        told("terms 2, FITTED: behind DOOR, where SAFE is for fewer by it", () -> {
            AdmissionDesk x = open("1-8 1-6");
            x.tell(1, 30);
            isFor(x, 3, 2, 5);
            row(x, 3, 6, 5, 4, 3, 2);
            row(x, 2, 1, 7);
            row(x, 1, 8);
        });
    }

    private static void fittedWindow() {
        told("terms 2, FITTED: THE WINDOW has just what it is for, none leaves it", () -> {
            AdmissionDesk x = shared(10, 50, 80, "1-4");
            x.tell(1, 40);
            row(x, 1, 4, 3, 2, 1);
            row(x, 2);
        });
        told("terms 2, FITTED: THE WINDOW has one more than it is for, its last one goes to the front of TRIED", () -> {
            AdmissionDesk x = shared(10, 50, 80, "1-6");
            row(x, 2, 1);
            x.tell(1, 40);
            row(x, 1, 6, 5, 4, 3);
            row(x, 2, 2, 1);
        });
        told("terms 2, FITTED: THE WINDOW's last ones go one by one, its front stays", () -> {
            AdmissionDesk x = shared(10, 50, 80, "1-6");
            x.tell(1, 1);
            row(x, 1, 6);
            row(x, 2, 5, 4, 3, 2, 1);
            latest(x, 1, NONE, NONE, NONE);
            is(0, x.count(19) + x.count(20));
        });
        told("terms 2, FITTED: those of SAFE go ahead of those of THE WINDOW", () -> {
            AdmissionDesk x = shared(10, 50, 60, "1-9 1-3");
            isFor(x, 5, 2, 3);
            row(x, 1, 9, 8, 7, 6, 5);
            row(x, 2, 4);
            row(x, 3, 3, 2, 1);
            x.tell(2, 20);
            row(x, 3, 3);
            row(x, 2, 2, 1, 4);
            AdmissionDesk y = shared(10, 50, 60, "1-9 1-3");
            // A room of 4: the window for 2, the main part for 2, safe for 1; 4, 7, 6 and 5 are the coldest.
            trace(y, "5-9");
            y.tell(0, 4);
            row(y, 1, 9, 8);
            is(3, y.at(3, 0));
            outs(y, 6, 5, 2, 1, 4);
            row(y, 2, 7);
        });
        told("terms 2, FITTED: THE WINDOW is for more, none comes", () -> {
            AdmissionDesk x = open("1-5");
            x.tell(1, 50);
            row(x, 1, 5);
            row(x, 2, 4, 3, 2, 1);
        });
    }

    private static void fittedMain() {
        told("terms 2, FITTED: THE MAIN PART has just what it is for, none goes OUT", () -> {
            AdmissionDesk x = open("1-8");
            is(7, x.part(2, 0));
            x.tell(0, 8);
            is(7, x.part(2, 0));
            is(0, x.count(2));
        });
        told("terms 2, FITTED: THE MAIN PART has one more than it is for, one goes OUT", () -> {
            AdmissionDesk x = open("1-8");
            x.tell(0, 7);
            row(x, 2, 7, 6, 5, 4, 3, 2);
            outs(x, 1);
            is(1, x.count(2));
        });
        told("terms 2, FITTED: that one whose ESTIMATE is least, in the middle of TRIED", () -> {
            AdmissionDesk x = open("1*3 2*3 3 4*3 5");
            row(x, 2, 4, 3, 2, 1);
            x.tell(0, 4);
            row(x, 2, 4, 2, 1);
            outs(x, 3);
        });
        told("terms 2, FITTED: that one whose ESTIMATE is least, at the front of TRIED", () -> {
            AdmissionDesk x = open("1*3 2*3 3*2 4 5");
            x.tell(0, 4);
            row(x, 2, 3, 2, 1);
            x.tell(0, 3);
            row(x, 2, 2, 1);
            outs(x, 3, 4);
        });
        told("terms 2, FITTED: one of SAFE whose ESTIMATE is 1 less than those of TRIED", () -> {
            AdmissionDesk x = open("1*3 2*3 3 4 3");
            row(x, 3, 3);
            row(x, 2, 2, 1);
            x.tell(0, 3);
            row(x, 3);
            row(x, 2, 2, 1);
            outs(x, 3);
        });
        told("terms 2, FITTED: of like ones one of TRIED ahead of one of SAFE", () -> {
            AdmissionDesk x = open("1*3 2*2 3 4 3");
            row(x, 3, 3);
            row(x, 2, 2, 1);
            x.tell(0, 3);
            isFor(x, 1, 1, 1);
            row(x, 3, 3);
            row(x, 2, 1);
            outs(x, 2);
        });
        told("terms 2, FITTED: of like ones of TRIED the one nearest to the end", () -> {
            AdmissionDesk x = open("1*2 2 3 4 5");
            row(x, 2, 4, 3, 2, 1);
            x.tell(0, 4);
            row(x, 2, 4, 3, 1);
            x.tell(0, 3);
            row(x, 2, 4, 1);
            outs(x, 3, 2);
        });
        told("terms 2, FITTED: of like ones of SAFE the one nearest to the end", () -> {
            AdmissionDesk x = open("");
            x.tell(2, 99);
            trace(x, "1-5 1-4 5*9 6*9 7");
            row(x, 3, 4, 3, 2, 1);
            row(x, 2, 6, 5);
            x.tell(0, 6);
            isFor(x, 1, 1, 4);
            row(x, 3, 4, 3, 2);
            row(x, 2, 6, 5);
            outs(x, 1);
        });
        told("terms 2, FITTED: those of SAFE that come to TRIED go as its own", () -> {
            AdmissionDesk x = open("1-4 1-3");
            row(x, 3, 3, 2, 1);
            x.tell(0, 2);
            row(x, 1, 4);
            row(x, 2, 3);
            row(x, 3);
            outs(x, 2, 1);
        });
        told("terms 2, FITTED: who just came from THE WINDOW may go OUT at once", () -> {
            AdmissionDesk x = shared(4, 50, 0, "1*3 2*3 3 4");
            row(x, 1, 4, 3);
            row(x, 2, 2, 1);
            x.tell(0, 3);
            row(x, 1, 4);
            row(x, 2, 2, 1);
            outs(x, 3);
        });
        told("terms 2, FITTED: ROOM 64 and then 1, all of THE MAIN PART go OUT", () -> {
            AdmissionDesk x = shared(64, 1, 99, "1-64 1-62");
            is(64, x.count(6));
            x.tell(0, 1);
            row(x, 1, 64);
            row(x, 2);
            row(x, 3);
            is(63, x.count(2));
            is(NONE, x.out(16));
            is(1, x.count(6));
        });
        told("terms 2, FITTED: ROOM 64, all in THE WINDOW but one, and then DOOR 1", () -> {
            AdmissionDesk x = shared(64, 99, 0, "1-64");
            is(63, x.part(1, 0));
            x.tell(1, 1);
            row(x, 1, 64);
            is(63, x.part(2, 0));
            is(63, x.at(2, 0));
            is(1, x.at(2, 62));
            is(0, x.count(2));
        });
        told("terms 2, FITTED: what goes OUT is no contest and no ASK", () -> {
            AdmissionDesk x = open("1-8");
            x.tell(0, 3);
            is(8, x.count(0));
            is(5, x.count(2));
            is(0, x.count(19) + x.count(20));
            is(8, x.count(17));
            latest(x, 7, NONE, NONE, NONE);
        });
        told("terms 2, FITTED: the same ROOM, DOOR, KEPT told again change nothing", () -> {
            AdmissionDesk x = busy();
            x.tell(0, x.count(8));
            x.tell(1, x.count(7));
            x.tell(2, x.count(9));
            alike(busy(), x);
        });
    }

    private static void keys() {
        told("promise 39, count: 6 KEYS in PARTS, none, and as many as ROOM", () -> {
            is(0, new AdmissionDesk().count(6));
            is(1, desk("7*5").count(6));
            is(9, desk("1-9").count(6));
            is(10, desk("1-10").count(6));
            is(10, desk("1-11").count(6));
            is(64, shared(64, 30, 50, "1-500").count(6));
            is(1, shared(1, 30, 50, "1-500").count(6));
        });
        told("promise 10, part: how many KEYS, none and all", () -> {
            AdmissionDesk x = shared(64, 99, 0, "");
            is(0, x.part(1, 0));
            trace(x, "1-62");
            is(62, x.part(1, 0));
            x.ask(63);
            is(63, x.part(1, 0));
            is(0, x.part(2, 0));
            x.ask(64);
            is(63, x.part(1, 0));
            is(1, x.part(2, 0));
        });
        told("promise 11, at: the front, the last one, NONE behind it and below 0", () -> {
            AdmissionDesk x = shared(64, 99, 0, "1-64");
            is(64, x.at(1, 0));
            is(2, x.at(1, 62));
            is(NONE, x.at(1, 63));
            is(1, x.at(2, 0));
            is(NONE, x.at(2, 1));
            is(NONE, x.at(3, 0));
            is(NONE, x.at(1, -1));
        });
    }
}
