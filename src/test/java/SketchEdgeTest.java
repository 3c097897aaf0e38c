/** The edges of section 1 of the Terms: THE SKETCH, THE DOORMAN, COUNTING, ESTIMATE, HALVED. */
public final class SketchEdgeTest extends Cases {
    public static void main(String[] args) {
        places();
        meets();
        counters();
        doorman();
        estimates();
        added();
        halving();
        tellSample();
        tellWide();
        tellDoorman();
        sums();
        finish();
    }

    /** A key other than those told that has one place with `key` in just those rows. */
    private static int meeting(int key, int wide, boolean... rows) {
        for (int other = 1; other < 100000; other++) {
            boolean is = other != key;
            for (int row = 0; row < 4; row++) {
                is &= rows[row] == (Model.place(key, row, 16 * wide) == Model.place(other, row, 16 * wide));
            }
            if (is) {
                return other;
            }
        }
        throw new IllegalStateException();
    }

    private static int bit(int key, int row) {
        return Model.place(key, row, 256);
    }

    private static void allPlaces(int wide) {
        told("terms 1, PLACE: WIDE " + wide + ", within 0 and " + (16 * wide - 1) + ", both of them met", () -> {
            for (int row = 0; row < 4; row++) {
                AdmissionDesk x = new AdmissionDesk();
                x.tell(5, wide);
                int least = 999;
                int most = -1;
                for (int n = 0; n < 500; n++) {
                    int key = n * 199;
                    int place = x.place(key, row);
                    is(Model.place(key, row, 16 * wide), place);
                    least = Math.min(least, place);
                    most = Math.max(most, place);
                }
                is(true, least >= 0 && least <= wide);
                is(true, most < 16 * wide && most >= 15 * wide - 1);
            }
        });
    }

    private static void places() {
        for (int wide : new int[] {1, 2, 3, 4, 15, 16}) {
            allPlaces(wide);
        }
        told("terms 1, PLACE: KEY and 1 times -1640531535 goes round", () -> {
            AdmissionDesk x = new AdmissionDesk();
            x.tell(5, 3);
            // 0 is below 0 behind the product, 1 goes round to above 0.
            is(31, x.place(0, 0));
            is(Model.place(1, 0, 48), x.place(1, 0));
            is(Model.place(99999, 0, 48), x.place(99999, 0));
        });
        told("terms 1, PLACE: without its sign bit, where x is below 0", () -> {
            AdmissionDesk x = new AdmissionDesk();
            x.tell(5, 3);
            int[][] below = {{2, 31, 5, 47, 7, 15}, {2, 39, 4, 2, 6, 40}, {0, 40, 1, 16, 4, 27}, {3, 43, 4, 26, 5, 33}};
            for (int row = 0; row < 4; row++) {
                for (int k = 0; k < 6; k += 2) {
                    is(below[row][k + 1], x.place(below[row][k], row));
                }
            }
        });
        told("terms 1, PLACE: the last KEY's, 99999", () -> {
            AdmissionDesk x = new AdmissionDesk();
            int[] due = {63, 27, 27, 25};
            for (int row = 0; row < 4; row++) {
                is(due[row], x.place(99999, row));
            }
        });
    }

    private static void meets() {
        told("promise 17, meets: 0, 1, 2, 3, 4 ROWS", () -> {
            AdmissionDesk x = new AdmissionDesk();
            x.tell(5, 1);
            boolean[] rows = new boolean[4];
            for (int n = 0; n <= 4; n++) {
                is(n, x.meets(7, meeting(7, 1, rows)));
                if (n < 4) {
                    rows[3 - n] = true;
                }
            }
        });
        told("promise 17, meets: each of the ROWS counts", () -> {
            AdmissionDesk x = new AdmissionDesk();
            for (int row = 0; row < 4; row++) {
                boolean[] rows = new boolean[4];
                rows[row] = true;
                is(1, x.meets(7, meeting(7, 4, rows)));
                is(1, x.meets(meeting(7, 4, rows), 7));
            }
        });
        told("promise 17, meets: a KEY and itself, 4", () -> is(4, new AdmissionDesk().meets(99999, 99999)));
        told("promise 17, meets: WIDE is looked at", () -> {
            AdmissionDesk x = new AdmissionDesk();
            int other = meeting(7, 1, true, true, false, false);
            x.tell(5, 16);
            int far = x.meets(7, other);
            x.tell(5, 1);
            is(2, x.meets(7, other));
            is(true, far < 2);
        });
    }

    private static void counters() {
        told("terms 1, COUNTERS: 14, then 15, and never 16", () -> {
            AdmissionDesk x = open("7*14");
            for (int due : new int[] {14, 15, 15, 15}) {
                for (int row = 0; row < 4; row++) {
                    is(due, x.counter(row, x.place(7, row)));
                }
                is(due, x.estimate(7));
                x.ask(7);
            }
        });
        told("terms 1, COUNTERS: one of each ROW, and no other", () -> {
            AdmissionDesk x = open("7");
            for (int row = 0; row < 4; row++) {
                int sum = 0;
                for (int place = 0; place < 64; place++) {
                    sum += x.counter(row, place);
                }
                is(1, sum);
                is(1, x.counter(row, x.place(7, row)));
            }
            is(4, x.count(15));
        });
        told("terms 1, COUNTERS: one ROW is at 15, the other three go on", () -> {
            int other = meeting(7, 4, true, false, false, false);
            AdmissionDesk x = open("7*15 " + other);
            is(15, x.counter(0, x.place(7, 0)));
            for (int row = 1; row < 4; row++) {
                is(1, x.counter(row, x.place(other, row)));
                is(15, x.counter(row, x.place(7, row)));
            }
        });
        told("promise 16, counter: the ends of the ROWS at WIDE 16 are COUNTERS of their own", () -> {
            AdmissionDesk x = open("");
            x.tell(5, 16);
            for (int key = 0; key < 100; key++) {
                x.ask(key);
            }
            for (int place : new int[] {0, 1, 254, 255}) {
                for (int row = 0; row < 4; row++) {
                    int due = 0;
                    for (int key = 0; key < 100; key++) {
                        due += Model.place(key, row, 256) == place ? 1 : 0;
                    }
                    is(due, x.counter(row, place));
                }
            }
        });
    }

    private static void doorman() {
        told("terms 1, THE DOORMAN: there at first", () -> {
            is(1, new AdmissionDesk().count(13));
            is(true, desk("7").noted(7));
            is(false, new AdmissionDesk().noted(7));
        });
        told("terms 1, THE DOORMAN: a first ASK NOTES, and that is all", () -> {
            AdmissionDesk x = desk("7");
            is(true, x.noted(7));
            is(2, x.count(14));
            is(0, x.count(4));
            is(0, x.count(15));
            is(1, x.estimate(7));
        });
        told("terms 1, THE DOORMAN: a second ASK is COUNTED, and NOTES nothing more", () -> {
            AdmissionDesk x = desk("7*2");
            is(2, x.count(14));
            is(1, x.count(4));
            is(4, x.count(15));
            is(2, x.estimate(7));
        });
        told("terms 1, THE DOORMAN: none, and a first ASK is COUNTED", () -> {
            AdmissionDesk x = open("7");
            is(false, x.noted(7));
            is(0, x.count(14));
            is(1, x.count(4));
            is(1, x.estimate(7));
        });
        told("terms 1, THE DOORMAN: one bit of two is not NOTED", () -> {
            // 5 and 1 have the bit 191 of ROW 0; 5 and 26 none but that of ROW 1.
            AdmissionDesk x = desk("5");
            is(bit(5, 0), bit(1, 0));
            is(false, x.noted(1));
            int other = 0;
            while (bit(other, 1) != bit(5, 1) || bit(other, 0) == bit(5, 0) || bit(other, 0) == bit(5, 1)) {
                other++;
            }
            is(false, x.noted(other));
            is(0, x.estimate(other));
            x.ask(other);
            is(3, x.count(14));
            is(0, x.count(4));
            is(true, x.noted(other));
        });
        told("terms 1, THE DOORMAN: both bits of two KEYS that came are NOTED", () -> {
            AdmissionDesk x = desk("5");
            int other = 6;
            while (bit(other, 0) != bit(5, 0) || bit(other, 1) == bit(5, 1) || bit(other, 1) == bit(1, 1)) {
                other++;
            }
            int third = 0;
            while (bit(third, 1) != bit(other, 1) || bit(third, 0) == bit(5, 0)) {
                third++;
            }
            is(false, x.noted(other));
            x.ask(third);
            is(true, x.noted(other));
            is(1, x.estimate(other));
            x.ask(other);
            is(4, x.count(14));
            is(1, x.count(4));
            is(2, x.estimate(other));
        });
        told("terms 1, THE DOORMAN: the bits of both ROWS are one row of 256", () -> {
            is(bit(5, 0), bit(84096, 1));
            is(bit(5, 1), bit(84096, 0));
            AdmissionDesk x = desk("5");
            is(true, x.noted(84096));
            is(true, desk("84096").noted(5));
        });
        told("terms 1, THE DOORMAN: a KEY whose two bits are one", () -> {
            is(bit(84, 0), bit(84, 1));
            AdmissionDesk x = desk("84");
            is(1, x.count(14));
            is(true, x.noted(84));
        });
        told("terms 1, THE DOORMAN: modulo 256 also at WIDE 1 and 16", () -> {
            for (int wide : new int[] {1, 16}) {
                AdmissionDesk x = new AdmissionDesk();
                x.tell(5, wide);
                int alike = 8;
                while (bit(alike, 0) % 16 != bit(7, 0) % 16 || bit(alike, 1) % 16 != bit(7, 1) % 16) {
                    alike++;
                }
                x.ask(7);
                is(true, x.noted(7));
                is(false, x.noted(alike));
                x.ask(alike);
                is(true, x.count(14) > 2);
                is(0, x.count(4));
            }
        });
        told("terms 1, THE DOORMAN: all 256 bits can be set", () -> {
            AdmissionDesk x = full();
            is(256, x.count(14));
            is(true, x.noted(99999));
            is(true, x.noted(55555));
        });
        told("terms 1, THE DOORMAN: all 256 bits are gone when HALVED, told anew, or WIDE is told", () -> {
            AdmissionDesk x = full();
            x.halve();
            is(0, x.count(14));
            x = full();
            x.doorman(false);
            is(0, x.count(14));
            x.doorman(true);
            is(0, x.count(14));
            x = full();
            x.tell(5, 16);
            is(0, x.count(14));
        });
    }

    /** A desk where each counter is at 15 and each bit is set. */
    private static AdmissionDesk full() {
        AdmissionDesk x = new AdmissionDesk();
        x.tell(3, 20000);
        x.tell(5, 16);
        for (int from = 0; from < 24000; from += 500) {
            trace(x, from + "-" + (from + 499));
        }
        return x;
    }

    private static void estimates() {
        for (int row = 0; row < 4; row++) {
            int least = row;
            told("terms 1, ESTIMATE: the least is that of ROW " + row, () -> {
                AdmissionDesk x = open("");
                for (int other = 0; other < 4; other++) {
                    if (other != least) {
                        boolean[] rows = new boolean[4];
                        rows[other] = true;
                        trace(x, meeting(7, 4, rows) + "*3");
                        is(3, x.counter(other, x.place(7, other)));
                    }
                }
                is(0, x.counter(least, x.place(7, least)));
                is(0, x.estimate(7));
                boolean[] rows = new boolean[4];
                rows[least] = true;
                trace(x, meeting(7, 4, rows) + "*2");
                is(2, x.estimate(7));
            });
        }
        told("terms 1, ESTIMATE: 15 and 1 that is NOTED are 16", () -> {
            AdmissionDesk x = desk("7*15");
            is(15, x.estimate(7));
            x.ask(7);
            is(16, x.estimate(7));
            x.ask(7);
            is(16, x.estimate(7));
        });
        told("terms 1, ESTIMATE: 15 without a DOORMAN", () -> is(15, open("7*20").estimate(7)));
        told("terms 1, ESTIMATE: 0 of what never came, 1 of what is NOTED alone", () -> {
            AdmissionDesk x = desk("7");
            is(0, x.estimate(8));
            is(1, x.estimate(7));
        });
        told("terms 1, ESTIMATE: no 1 more, where the DOORMAN has not NOTED it", () -> {
            AdmissionDesk x = open("7*3");
            x.doorman(true);
            is(3, x.estimate(7));
            x.ask(7);
            is(4, x.estimate(7));
            is(3, x.count(4));
            x.ask(7);
            is(5, x.estimate(7));
        });
    }

    private static void added() {
        told("terms 1, ADDED: 15 COUNTINGS of one KEY, not the 16th", () -> {
            AdmissionDesk x = open("7*14");
            is(14, x.count(4));
            x.ask(7);
            is(15, x.count(4));
            x.ask(7);
            is(15, x.count(4));
            is(60, x.count(16));
        });
        told("terms 1, ADDED: 1 more if three COUNTERS of four are at 15", () -> {
            AdmissionDesk x = open("");
            for (int row = 1; row < 4; row++) {
                boolean[] rows = new boolean[4];
                rows[row] = true;
                trace(x, meeting(7, 4, rows) + "*15");
            }
            int before = x.count(4);
            is(0, x.estimate(7));
            x.ask(7);
            is(before + 1, x.count(4));
            is(1, x.counter(0, x.place(7, 0)));
            is(15, x.counter(1, x.place(7, 1)));
            is(15, x.counter(2, x.place(7, 2)));
            is(15, x.counter(3, x.place(7, 3)));
        });
        told("terms 1, ADDED: 1 more for a COUNTING, not for each COUNTER", () -> is(3, open("7-9").count(4)));
    }

    private static void halving() {
        told("terms 1, SAMPLE: 200 at first, ADDED 199 is not HALVED", () -> {
            AdmissionDesk x = open("0-198");
            is(199, x.count(4));
            is(0, x.count(5));
        });
        told("terms 1, SAMPLE: 200 at first, ADDED 200 is HALVED", () -> {
            AdmissionDesk x = open("0-199");
            is(100, x.count(4));
            is(1, x.count(5));
        });
        told("terms 1, SAMPLE 10: ADDED 9 is not HALVED, 10 is, and 10 again", () -> {
            AdmissionDesk x = open("");
            x.tell(3, 10);
            trace(x, "7*9");
            is(9, x.count(4));
            is(0, x.count(5));
            x.ask(7);
            is(5, x.count(4));
            is(1, x.count(5));
            is(5, x.estimate(7));
            trace(x, "7*4");
            is(9, x.count(4));
            is(1, x.count(5));
            x.ask(7);
            is(5, x.count(4));
            is(2, x.count(5));
        });
        told("terms 1, SAMPLE 20000: ADDED grows beyond 10000", () -> {
            AdmissionDesk x = open("");
            x.tell(3, 20000);
            for (int k = 0; k < 6; k++) {
                trace(x, "0-99*5");
            }
            is(0, x.count(5));
            is(true, x.count(4) > 200);
        });
        told("terms 1, HALVED: an odd ADDED and odd COUNTERS are rounded down", () -> {
            AdmissionDesk x = open("1 2*2 3*3 4*15");
            is(21, x.count(4));
            is(10, x.halve());
            is(0, x.estimate(1));
            is(1, x.estimate(2));
            is(1, x.estimate(3));
            is(7, x.estimate(4));
            is(5, x.halve());
            is(2, x.halve());
            is(1, x.halve());
            is(0, x.halve());
            is(5, x.count(5));
        });
        told("terms 1, HALVED: nothing is NOTED, the DOORMAN stays", () -> {
            AdmissionDesk x = desk("1 2 3");
            x.halve();
            is(0, x.count(14));
            is(1, x.count(13));
            is(false, x.noted(1));
            x.ask(1);
            is(true, x.noted(1));
            is(0, x.count(4));
        });
        told("promise 19, halve: nothing is COUNTED, and HALVINGS are 1 more", () -> {
            AdmissionDesk x = new AdmissionDesk();
            is(0, x.halve());
            is(1, x.count(5));
            is(0, x.count(16));
        });
        told("promise 19, halve: the last COUNTERS of the last ROW too, at WIDE 16", () -> {
            AdmissionDesk x = open("");
            x.tell(5, 16);
            int key = 0;
            while (Model.place(key, 3, 256) != 255) {
                key++;
            }
            trace(x, key + "*4");
            x.halve();
            is(2, x.counter(3, 255));
            is(8, x.count(16));
        });
        told("terms 1, HALVED behind COUNTING: the contest of that ASK knows it", () -> {
            AdmissionDesk x = shared(2, 50, 0, "");
            x.tell(3, 10);
            law(x, "cand = 3 and vict = 1");
            trace(x, "1*3 2*6");
            is(9, x.count(4));
            x.ask(3);
            is(1, x.count(5));
            latest(x, 2, 1, 1, 1);
        });
        told("terms 1, HALVED: a DOORMAN who NOTES brings ADDED no nearer to SAMPLE", () -> {
            AdmissionDesk x = desk("");
            x.tell(3, 10);
            trace(x, "1*10");
            is(9, x.count(4));
            int key = 2;
            while (x.noted(key)) {
                key++;
            }
            x.ask(key);
            is(9, x.count(4));
            is(0, x.count(5));
            x.ask(key);
            is(5, x.count(4));
            is(1, x.count(5));
            is(0, x.count(14));
        });
    }

    private static void sampleTold(int added, int sample, int due, int halvings) {
        told("promise 21, tell: SAMPLE " + sample + ", ADDED " + added + " is HALVED " + halvings + " times", () -> {
            AdmissionDesk x = open("100-" + (99 + added));
            is(added, x.count(4));
            x.tell(3, sample);
            is(due, x.count(4));
            is(halvings, x.count(5));
        });
    }

    private static void tellSample() {
        sampleTold(20, 21, 20, 0);
        sampleTold(20, 20, 10, 1);
        sampleTold(20, 19, 10, 1);
        sampleTold(20, 11, 10, 1);
        sampleTold(20, 10, 5, 2);
        sampleTold(19, 10, 9, 1);
        sampleTold(199, 10, 6, 5);
        sampleTold(9, 10, 9, 0);
        told("promise 21, tell: SAMPLE, HALVED at once, nothing is NOTED", () -> {
            AdmissionDesk x = desk("7*11");
            is(10, x.count(4));
            is(200, x.tell(3, 10));
            is(5, x.count(4));
            is(5, x.estimate(7));
            is(0, x.count(14));
        });
        told("promise 21, tell: SAMPLE above ADDED, what is NOTED stays", () -> {
            AdmissionDesk x = desk("7*11");
            x.tell(3, 11);
            is(2, x.count(14));
            is(10, x.count(4));
        });
        told("promise 21, tell: SAMPLE 10, where ADDED is some thousands", () -> {
            AdmissionDesk x = open("");
            x.tell(3, 20000);
            x.tell(5, 16);
            for (int from = 0; from < 5000; from += 500) {
                trace(x, from + "-" + (from + 499));
            }
            is(4430, x.count(4));
            x.tell(3, 10);
            // 2215, 1107, 553, 276, 138, 69, 34, 17, 8
            is(9, x.count(5));
            is(8, x.count(4));
            is(0, x.count(16));
        });
    }

    private static void tellWide() {
        for (int wide : new int[] {1, 4, 16}) {
            told("promise 21, tell: WIDE " + wide + ", THE SKETCH is empty, ADDED 0, nothing NOTED", () -> {
                AdmissionDesk x = desk("7*5 8*3");
                x.halve();
                trace(x, "7*5 8*3");
                is(4, x.tell(5, wide));
                is(0, x.count(4));
                is(0, x.count(14));
                is(0, x.count(15));
                is(0, x.count(16));
                is(0, x.estimate(7));
                is(1, x.count(5));
                is(1, x.count(13));
                is(200, x.count(10));
                is(2, x.count(6));
                is(16, x.count(0));
                x.ask(7);
                is(0, x.count(4));
                is(1, x.estimate(7));
            });
        }
        told("promise 21, tell: WIDE is told, there is no DOORMAN still", () -> {
            AdmissionDesk x = open("7");
            x.tell(5, 2);
            is(0, x.count(13));
            x.ask(7);
            is(1, x.count(4));
        });
        told("promise 21, tell: WIDE 16 and back to 1, no COUNTER is left behind", () -> {
            AdmissionDesk x = open("");
            x.tell(5, 16);
            trace(x, "0-99");
            x.tell(5, 1);
            is(0, x.count(15));
            x.tell(5, 16);
            is(0, x.count(15));
        });
    }

    private static void tellDoorman() {
        told("promise 22, doorman: he is there already, false, and what he has NOTED stays", () -> {
            AdmissionDesk x = desk("7 8 8");
            is(false, x.doorman(true));
            is(true, x.noted(7));
            is(1, x.count(4));
        });
        told("promise 22, doorman: none any more, true, nothing NOTED, the COUNTERS stay", () -> {
            AdmissionDesk x = desk("7 8*3");
            is(true, x.doorman(false));
            is(0, x.count(13));
            is(0, x.count(14));
            is(false, x.noted(7));
            is(2, x.estimate(8));
            is(2, x.count(4));
        });
        told("promise 22, doorman: none already, false", () -> is(false, open("7").doorman(false)));
        told("promise 22, doorman: a new one, true, has NOTED nothing", () -> {
            AdmissionDesk x = desk("7 8*3");
            x.doorman(false);
            x.ask(7);
            is(true, x.doorman(true));
            is(1, x.count(13));
            is(0, x.count(14));
            is(false, x.noted(7));
            is(1, x.estimate(7));
            is(3, x.count(4));
        });
        told("promise 18, noted: none without a DOORMAN, whoever comes", () -> {
            AdmissionDesk x = open("7*3");
            is(false, x.noted(7));
            is(0, x.count(14));
        });
        leavesAlone("promise 22, doorman: not new, and nothing changes", x -> x.doorman(true));
    }

    private static void sums() {
        told("promise 39, count: 15 COUNTERS that are not 0, 16 all together, of none and of few", () -> {
            AdmissionDesk x = open("");
            is(0, x.count(15));
            is(0, x.count(16));
            x.ask(7);
            is(4, x.count(15));
            is(4, x.count(16));
            x.ask(7);
            is(4, x.count(15));
            is(8, x.count(16));
            trace(x, "7*20");
            is(60, x.count(16));
        });
        told("promise 39, count: 15 and 16, all COUNTERS at 15 at WIDE 16", () -> {
            AdmissionDesk x = full();
            is(1024, x.count(15));
            is(15360, x.count(16));
            is(15, x.counter(0, 0));
            is(15, x.counter(3, 255));
            int before = x.count(4);
            x.ask(12345);
            is(before, x.count(4));
        });
        told("promise 38, back: each COUNTER and each bit, from the first to the last", () -> {
            AdmissionDesk x = full();
            x.keep();
            x.tell(5, 1);
            is(0, x.count(14) + x.count(16));
            x.back();
            is(256, x.count(14));
            is(1024, x.count(15));
            is(15360, x.count(16));
            AdmissionDesk y = new AdmissionDesk();
            y.keep();
            trace(y, "0-499");
            y.back();
            is(0, y.count(14) + y.count(16));
        });
        told("promise 19, halve: each COUNTER, from the first to the last", () -> {
            AdmissionDesk x = full();
            x.halve();
            is(1024 * 7, x.count(16));
            x.tell(5, 16);
            is(0, x.count(16));
        });
    }
}
