/** The edges of the TAPE and of both texts: promises 2 to 7, THE LAW of section 2, TRACE and THE FAULT of section 3. */
public final class TextEdgeTest extends Cases {
    private static final String[] PART_WORDS = {"cand", "vict", "hits", "asks", "out", "door", "room", "key"};

    public static void main(String[] args) {
        feed();
        end();
        lawSizes();
        lawNumbers();
        lawWords();
        lawSigns();
        lawMeaning();
        lawFaults();
        free();
        traceNumbers();
        traceTimes();
        traceBrackets();
        traceAsks();
        traceFaults();
        blanks();
        prefixes();
        fault();
        finish();
    }

    private static void goodLaw(String name, int parts, String text) {
        told(name, () -> {
            AdmissionDesk x = new AdmissionDesk();
            tape(x, text);
            is(true, x.end(text.length()));
            is(parts, x.law());
            is(NONE, x.fault());
            is(parts, x.count(18));
            is(false, x.end(1));
        });
    }

    private static void wrongLaw(String name, int fault, String text) {
        told(name, () -> {
            AdmissionDesk x = new AdmissionDesk();
            law(x, "1 = 1 or 1 = 2");
            tape(x, text);
            is(true, x.end(text.length()));
            bad(ILLEGAL, x::law);
            is(fault, x.fault());
            is(4, x.count(18));
            is(true, x.wins(1, 2));
            is(false, x.end(1));
        });
    }

    private static void goodTrace(String name, int asks, String text) {
        told(name, () -> {
            AdmissionDesk x = new AdmissionDesk();
            tape(x, text);
            is(true, x.end(text.length()));
            is(x.trace(), x.count(1));
            is(NONE, x.fault());
            is(asks, x.count(0));
            is(false, x.end(1));
        });
    }

    private static void wrongTrace(String name, int fault, String text) {
        told(name, () -> {
            AdmissionDesk x = new AdmissionDesk();
            tape(x, text);
            is(true, x.end(text.length()));
            bad(ILLEGAL, x::trace);
            is(fault, x.fault());
            is(0, x.count(0));
            is(0, x.count(17));
            is(0, x.count(14));
            is(false, x.end(1));
        });
    }

    private static int blank(AdmissionDesk x) {
        return x.feed(0x20202020, 0x20202020, 0x20202020, 0x20202020, 0x20202020);
    }

    private static AdmissionDesk taped(int bytes) {
        AdmissionDesk x = new AdmissionDesk();
        for (int n = 0; n < bytes; n += 20) {
            blank(x);
        }
        is(true, x.end(bytes));
        return x;
    }

    private static void feed() {
        told("promise 2, feed: 20 bytes behind an empty TAPE", () -> is(20, blank(new AdmissionDesk())));
        told("promise 2, feed: 379 bytes and 20 are 399", () -> is(399, blank(taped(379))));
        told("promise 2, feed: 380 bytes and 20 are 400", () -> is(400, blank(taped(380))));
        for (int bytes : new int[] {381, 399, 400}) {
            told("promise 2, feed: " + bytes + " bytes and 20 are too many, NONE, and none come", () -> {
                AdmissionDesk x = taped(bytes);
                is(NONE, x.feed(0x31313131, 0x31313131, 0x31313131, 0x31313131, 0x31313131));
                is(false, x.end(bytes + 1));
                is(true, x.end(bytes));
                is(NONE, x.feed(1, 2, 3, 4, 5));
                bad(ILLEGAL, x::trace);
                is(bytes, x.fault());
            });
        }
        told("promise 2, feed: of each number the highest byte first, of five numbers one behind another", () -> {
            AdmissionDesk x = new AdmissionDesk();
            x.feed(0x31203220, 0x33203420, 0x35203620, 0x37203820, 0x39203130);
            x.trace();
            history(x, 1, 2, 3, 4, 5, 6, 7, 8, 9, 10);
        });
        told("promise 2, feed: bytes above 127 are none of a number, in each place", () -> {
            for (int k = 0; k < 20; k++) {
                int[] n = {0x20202020, 0x20202020, 0x20202020, 0x20202020, 0x20202020};
                n[k / 4] ^= 0x80 << 24 - k % 4 * 8;
                AdmissionDesk x = new AdmissionDesk();
                x.feed(n[0], n[1], n[2], n[3], n[4]);
                bad(ILLEGAL, x::trace);
                is(k, x.fault());
            }
        });
        told("promise 2, feed: behind the TAPE that end() has left", () -> {
            AdmissionDesk x = new AdmissionDesk();
            x.feed(0x31323334, 0, 0, 0, 0);
            x.end(3);
            is(23, x.feed(0x37202020, 0x20202020, 0x20202020, 0x20202020, 0x20202020));
            x.trace();
            history(x, 1237);
        });
        told("promise 2, feed: law() and trace() have used the TAPE up", () -> {
            AdmissionDesk x = taped(400);
            bad(ILLEGAL, x::law);
            is(20, blank(x));
            bad(ILLEGAL, x::trace);
            is(20, blank(x));
            law(x, "1=1");
            is(20, blank(x));
            trace(x, "7");
            is(20, blank(x));
        });
    }

    private static void end() {
        told("promise 3, end: an empty TAPE has 0 bytes, not 1, not -1", () -> {
            AdmissionDesk x = new AdmissionDesk();
            is(true, x.end(0));
            is(false, x.end(1));
            is(false, x.end(-1));
            is(false, x.end(Integer.MAX_VALUE));
            is(false, x.end(Integer.MIN_VALUE));
        });
        told("promise 3, end: as many bytes as there are, all stay", () -> {
            AdmissionDesk x = new AdmissionDesk();
            blank(x);
            is(true, x.end(20));
            is(40, blank(x));
        });
        told("promise 3, end: one byte more than there are, false, and nothing happens", () -> {
            AdmissionDesk x = new AdmissionDesk();
            x.feed(0x31202020, 0x20202020, 0x20202020, 0x20202020, 0x20202032);
            is(false, x.end(21));
            is(0, x.trace());
            history(x, 1, 2);
        });
        told("promise 3, end: n below 0, false, and nothing happens", () -> {
            for (int n : new int[] {-1, -20, Integer.MIN_VALUE}) {
                AdmissionDesk x = new AdmissionDesk();
                x.feed(0x31202020, 0x20202020, 0x20202020, 0x20202020, 0x20202032);
                is(false, x.end(n));
                x.trace();
                history(x, 1, 2);
            }
        });
        told("promise 3, end: one byte fewer than there are", () -> {
            AdmissionDesk x = new AdmissionDesk();
            x.feed(0x31202020, 0x20202020, 0x20202020, 0x20202020, 0x20202032);
            is(true, x.end(19));
            is(false, x.end(20));
            x.trace();
            history(x, 1);
        });
        told("promise 3, end: 0 bytes, and the text is empty", () -> {
            AdmissionDesk x = new AdmissionDesk();
            x.feed(0x31202020, 0, 0, 0, 0);
            is(true, x.end(0));
            is(false, x.end(1));
            bad(ILLEGAL, x::trace);
            is(0, x.fault());
        });
        told("promise 3, end: 400 bytes of 400, not 401", () -> {
            AdmissionDesk x = taped(400);
            is(false, x.end(401));
            is(true, x.end(400));
            is(true, x.end(399));
            is(false, x.end(400));
        });
        leavesAlone("promise 3, end: false changes nothing", x -> is(false, x.end(6)));
        leavesAlone("promise 3, end: all of it changes nothing", x -> is(true, x.end(5)));
    }

    private static void lawSizes() {
        goodLaw("terms 2, THE LAW: 3 bytes", 2, "1=1");
        goodLaw("terms 2, THE LAW: 400 bytes", 2, "1=" + " ".repeat(397) + "1");
        goodLaw("terms 2, THE LAW: 400 bytes of words", 2, "not ".repeat(99) + "1=1 ");
        wrongLaw("terms 2, THE LAW: 400 bytes, the last one wrong", 399, "1=1" + " ".repeat(396) + ")");
        wrongLaw("terms 2, THE LAW: 400 bytes, more must come", 400, "1=1" + " ".repeat(394) + "and");
        wrongLaw("terms 2, THE LAW: 400 bytes, cut off within a word", 398, "1=1" + " ".repeat(395) + "an");
        goodLaw("terms 2, PARTS: 60 in one SUM and another one", 60, "1" + "+1".repeat(58) + "=1");
        goodLaw("terms 2, PARTS: 60, the last ones behind the SIGN", 60, "1=1" + "-1".repeat(58));
        goodLaw("terms 2, PARTS: 60 in 30 ATOMS", 60, "1=1" + "or 1=1".repeat(29));
        goodLaw("terms 2, PARTS: 60 words", 60, "key" + "+key".repeat(58) + "=key");
        wrongLaw("terms 2, PARTS: the 61st, a NUMBER behind +", 120, "1" + "+1".repeat(58) + "=1+1");
        wrongLaw("terms 2, PARTS: the 61st, a word behind a blank", 121, "1" + "+1".repeat(58) + "=1+ key");
        wrongLaw("terms 2, PARTS: the 61st, behind the SIGN", 120, "1" + "+1".repeat(59) + "=1");
        wrongLaw("terms 2, PARTS: the 61st, the first one of an ATOM", 3 + 29 * 6 + 2, "1=1" + "or 1=1".repeat(29) + "or1=1");
        wrongLaw("terms 2, PARTS: the 61st is no PART: a SIGN at its byte", 120, "1" + "+1".repeat(58) + "=1+=");
        wrongLaw("terms 2, PARTS: the 61st is one too long, too", 120, "1" + "+1".repeat(58) + "=1+12345");
        wrongLaw("terms 2, PARTS: 60, and the end cuts off what must come", 119, "1" + "+1".repeat(59));
        goodLaw("terms 2, brackets: none, 1, and 8 within one another", 6, "1=1 or (1=1) or ((((((((1=1))))))))");
        wrongLaw("terms 2, brackets: the ninth within one another", 8, "(((((((((1=1)))))))))");
        wrongLaw("terms 2, brackets: the ninth, behind not and blanks", 13, "(((((((( not (1=1)))))))))");
        wrongLaw("terms 2, brackets: the ninth, behind an ATOM", 15, "((((((((1=1 or (1=1)))))))))");
        goodLaw("terms 2, brackets: 8 within one another, and 8 again", 4, "((((((((1=1))))))))and((((((((1=1))))))))");
        goodLaw("terms 2, brackets: more than 8 beside one another", 20, "(1=1)" + "or(1=1)".repeat(9));
        wrongLaw("terms 2, brackets: the ninth, behind 8 that were closed but one", 17, "((((((((1=1))or(((1=1");
        wrongLaw("terms 2, brackets: one that closes none", 3, "1=1)");
        wrongLaw("terms 2, brackets: one more that closes than opens", 5, "(1=1))");
        wrongLaw("terms 2, brackets: one that is not closed", 4, "(1=1");
    }

    private static void lawNumbers() {
        goodLaw("terms 2, NUMBER: 1 digit, 0 and 9", 2, "0<9");
        goodLaw("terms 2, NUMBER: 4 digits, 0000 and 9999", 2, "0000<9999");
        wrongLaw("terms 2, NUMBER: 5 digits", 4, "1 = 10000");
        wrongLaw("terms 2, NUMBER: 5 digits of 0", 4, "1 = 00001");
        wrongLaw("terms 2, NUMBER: 5 digits at the first byte", 0, "12345=1");
        wrongLaw("terms 2, NUMBER: 12 digits", 4, "1 = 123456789012");
        wrongLaw("terms 2, NUMBER: none below 0", 4, "1 = -1");
        wrongLaw("terms 2, NUMBER: two behind one another", 2, "1 2 = 3");
        told("terms 2, NUMBER: 9999 is 9999, 0010 is 10", () -> {
            AdmissionDesk x = new AdmissionDesk();
            law(x, "9999 - 9998 = 1 and 0010 = 10 and 9999 + 1 > 9999");
            is(true, x.wins(1, 2));
        });
    }

    private static void lawWords() {
        for (String word : PART_WORDS) {
            goodLaw("terms 2, words: " + word + " is a PART", 2, word + "=" + word);
            for (int n = 1; n < word.length(); n++) {
                wrongLaw("terms 2, words: " + word.substring(0, n) + ", cut off by the end", 2, "1=" + word.substring(0, n));
            }
            wrongLaw("terms 2, words: " + word + " cut off by a SIGN", 0, word.substring(0, word.length() - 1) + "=1");
            wrongLaw("terms 2, words: " + word + "s, one letter too many", 0, word + "s=1");
            wrongLaw("terms 2, words: " + word + word + " is one word", 0, word + word + "=1");
            wrongLaw("terms 2, words: " + word + " with a blank in it", 0, word.substring(0, 2) + " " + word.substring(2) + "=1");
            for (int n = 0; n < word.length(); n++) {
                String other = word.substring(0, n) + "z" + word.substring(n + 1);
                wrongLaw("terms 2, words: " + other + " is none", 0, other + "=1");
            }
            wrongLaw("terms 2, words: " + word + "z, one letter too many, the last one there is", 0, word + "z=1");
            wrongLaw("terms 2, words: a" + word + ", one letter too many, the first one there is", 0, "a" + word + "=1");
            wrongLaw("terms 2, words: " + word + ", a great letter", 0, word.toUpperCase() + "=1");
            wrongLaw("terms 2, words: " + word + " is no SIGN", 2, "1 " + word + " 2");
        }
        wrongLaw("terms 2, words: an, cut off by the end", 4, "1=1 an");
        wrongLaw("terms 2, words: o of or, cut off by the end", 4, "1=1 o");
        wrongLaw("terms 2, words: no, cut off by the end", 0, "no");
        for (String word : new String[] {"zand", "zr", "zot", "azd", "oz", "nzt", "anz", "noz"}) {
            wrongLaw("terms 2, words: " + word + " is none behind an ATOM", 4, "1=1 " + word + " 1=1");
        }
        wrongLaw("terms 2, words: zot is none at the beginning", 0, "zot 1=1");
        wrongLaw("terms 2, words: ands, one letter too many", 4, "1=1 ands 1=1");
        wrongLaw("terms 2, words: orr, one letter too many", 4, "1=1 orr 1=1");
        wrongLaw("terms 2, words: nots, one letter too many", 0, "nots 1=1");
        wrongLaw("terms 2, words: notcand is one word", 0, "notcand=1");
        wrongLaw("terms 2, words: andnot is one word", 4, "1=1 andnot 1=1");
        wrongLaw("terms 2, words: candor is one word", 2, "1=candor 1=1");
        goodLaw("terms 2, words: a NUMBER beside a word", 4, "1=1and 1=1");
        goodLaw("terms 2, words: a word beside a bracket", 4, "not(1=1)and(1=1)");
        goodLaw("terms 2, words: or beside a NUMBER", 4, "1=1or 1=1");
        goodLaw("terms 2, words: and ahead of a NUMBER", 4, "1=1 and1=1");
        goodLaw("terms 2, words: not ahead of a NUMBER", 2, "not1=1");
        wrongLaw("terms 2, words: a word of 50 letters", 2, "1=" + "candvict".repeat(6) + "ab");
        wrongLaw("terms 2, words: and, or where a PART must come", 0, "and 1=1");
        wrongLaw("terms 2, words: not where a PART must come", 2, "1=not 1");
        wrongLaw("terms 2, words: or behind and", 8, "1=1 and or 1=1");
    }

    private static void holds(String name, boolean due, String text) {
        told(name, () -> {
            AdmissionDesk x = new AdmissionDesk();
            law(x, text);
            is(due, x.wins(1, 2));
        });
    }

    private static void lawSigns() {
        String[] pairs = {"4 # 5", "5 # 5", "6 # 5"};
        for (int k = 0; k < 3; k++) {
            holds("terms 2, SIGN <: " + pairs[k].replace('#', '<'), k == 0, pairs[k].replace('#', '<'));
            holds("terms 2, SIGN =: " + pairs[k].replace('#', '='), k == 1, pairs[k].replace('#', '='));
            holds("terms 2, SIGN >: " + pairs[k].replace('#', '>'), k == 2, pairs[k].replace('#', '>'));
        }
        wrongLaw("terms 2, SIGN: none", 1, "1");
        wrongLaw("terms 2, SIGN: two, one behind another", 2, "1>=1");
        wrongLaw("terms 2, SIGN: two, as for not like", 2, "1<>1");
        wrongLaw("terms 2, SIGN: a second one behind the second SUM", 3, "1=1=1");
        wrongLaw("terms 2, SIGN: ! is none", 1, "1!1");
        wrongLaw("terms 2, SIGN: none, a bracket closes", 2, "(1)=1");
        wrongLaw("terms 2, SUM: a bracket is no PART", 2, "1=(1)");
        wrongLaw("terms 2, SUM: + at its end", 4, "1=1+");
        wrongLaw("terms 2, SUM: + at its beginning", 0, "+1=1");
        wrongLaw("terms 2, SUM: - at its beginning", 0, "-1=1");
        wrongLaw("terms 2, SUM: two signs", 4, "1=1+-1");
        wrongLaw("terms 2, SUM: * is none", 3, "1=1*1");
    }

    private static void lawMeaning() {
        holds("terms 2, SUM: from the left, 9 - 3 - 2 is 4", true, "9-3-2=4");
        holds("terms 2, SUM: from the left, 9 - 3 + 2 is 8", true, "9-3+2=8");
        holds("terms 2, SUM: below 0", true, "1-2 < 0 and 0 > 1-2 and 1-2 = 2-3");
        holds("terms 2, SUM: 59 times 9999", true, "9999" + "+9999".repeat(58) + ">9999");
        holds("terms 2, SUM: 0 less 58 times 9999", true, "0" + "-9999".repeat(58) + "<0");
        holds("terms 2, C: or, the first one holds", true, "1=1 or 1=2");
        holds("terms 2, C: or, the last one holds", true, "1=2 or 1=2 or 1=1");
        holds("terms 2, C: or, none holds", false, "1=2 or 1=2 or 1=2");
        holds("terms 2, ALL: and, all hold", true, "1=1 and 1=1 and 1=1");
        holds("terms 2, ALL: and, the first one does not", false, "1=2 and 1=1 and 1=1");
        holds("terms 2, ALL: and, the last one does not", false, "1=1 and 1=1 and 1=2");
        holds("terms 2, C: and goes ahead of or, ahead of it", true, "1=2 and 1=2 or 1=1");
        holds("terms 2, C: and goes ahead of or, behind it", true, "1=1 or 1=2 and 1=2");
        holds("terms 2, ATOM: a bracket goes ahead of and", false, "1=2 and (1=2 or 1=1)");
        holds("terms 2, ATOM: not, of what holds", false, "not 1=1");
        holds("terms 2, ATOM: not, of what does not", true, "not 1=2");
        holds("terms 2, ATOM: not, of a bracket that does not hold", true, "not (1=2)");
        holds("terms 2, ATOM: not, of what does not, and", true, "not 1=2 and not 1=2");
        holds("terms 2, ATOM: not, of what holds, or what holds", true, "not 1=1 or 1=1");
        holds("terms 2, ATOM: not, of what holds, and what holds", false, "not 1=1 and 1=1");
        holds("terms 2, ATOM: not, of what holds, or", false, "not 1=1 or not 1=1");
        holds("terms 2, ATOM: not, of one ATOM alone", true, "not 1=2 or 1=1");
        holds("terms 2, ATOM: not, of a SUM's ATOM, and goes on", false, "not 1=2 and 1=2");
        holds("terms 2, ATOM: not of a bracket", false, "not (1=2 or 1=1)");
        holds("terms 2, ATOM: not not", true, "not not 1=1");
        holds("terms 2, ATOM: not not not", false, "not not not 1=1");
        holds("terms 2, ATOM: not 99 times", false, "not ".repeat(99) + "1=1");
        told("terms 2, PART: key is the CANDIDATE's, modulo 10", () -> {
            AdmissionDesk x = new AdmissionDesk();
            int[][] due = {{0, 0}, {9, 9}, {10, 0}, {11, 1}, {99999, 9}, {99990, 0}};
            for (int[] pair : due) {
                law(x, "key = " + pair[1]);
                is(true, x.wins(pair[0], 5));
                law(x, "not key = " + pair[1]);
                is(false, x.wins(pair[0], 5));
            }
        });
        told("terms 2, PART: cand and vict are ESTIMATES, the DOORMAN's 1 too", () -> {
            AdmissionDesk x = desk("7*16 8");
            law(x, "cand = 16 and vict = 1");
            is(true, x.wins(7, 8));
            law(x, "cand = 1 and vict = 16");
            is(true, x.wins(8, 7));
            law(x, "cand = 0 and vict = 0");
            is(true, x.wins(5, 6));
        });
        told("terms 2, PART: hits, asks, out as count() tells", () -> {
            AdmissionDesk x = shared(2, 50, 0, "1-9 9*3");
            law(x, "hits = 3 and asks = 12 and out = 7");
            is(3, x.count(1));
            is(7, x.count(2));
            is(true, x.wins(1, 2));
            law(x, "not hits = 3 or not asks = 12 or not out = 7");
            is(false, x.wins(1, 2));
        });
        told("terms 2, PART: door and room as they are told now", () -> {
            AdmissionDesk x = new AdmissionDesk();
            law(x, "door = 10 and room = 10");
            is(true, x.wins(1, 2));
            x.tell(0, 64);
            is(false, x.wins(1, 2));
            law(x, "door = 99 and room = 64");
            is(false, x.wins(1, 2));
            x.tell(1, 99);
            is(true, x.wins(1, 2));
        });
    }

    private static void lawFaults() {
        wrongLaw("promise 4, law: an empty text", 0, "");
        wrongLaw("promise 4, law: blanks alone", 3, " \t\n");
        wrongLaw("promise 4, law: brackets round nothing", 1, "()");
        wrongLaw("promise 4, law: a trace is none", 3, "1-9");
        wrongLaw("promise 4, law: two laws", 4, "1=1 1=1");
        wrongLaw("promise 4, law: byte 0", 3, "1=1\0");
        wrongLaw("promise 4, law: byte 255", 3, "1=1\u00ff");
        wrongLaw("promise 4, law: byte 225, as a small letter with the highest bit", 3, "1=1\u00e1");
        wrongLaw("promise 4, law: the first one of two faults", 2, "1=x and 12345=1");
        told("promise 4, law: a new text in place of the one ahead", () -> {
            AdmissionDesk x = new AdmissionDesk();
            is(4, law(x, "1=1 and 1=1"));
            is(true, x.wins(1, 2));
            is(2, law(x, "1=2"));
            is(2, x.count(18));
            is(false, x.wins(1, 2));
        });
    }

    private static void free() {
        told("promise 5, free: false without a text, and nothing changes", () -> {
            AdmissionDesk x = desk("1-20 3*5");
            AdmissionDesk y = desk("1-20 3*5");
            is(false, x.free());
            alike(y, x);
        });
        told("promise 5, free: true with one, then false", () -> {
            AdmissionDesk x = new AdmissionDesk();
            law(x, "1=1");
            is(true, x.free());
            is(NONE, x.count(18));
            is(false, x.free());
        });
        told("promise 5, free: it wins by ESTIMATES again", () -> {
            AdmissionDesk x = open("7");
            law(x, "cand = vict");
            is(true, x.wins(7, 7));
            x.free();
            is(false, x.wins(7, 7));
            is(true, x.wins(7, 8));
        });
        told("promise 5, free: false behind a wrong text alone", () -> {
            AdmissionDesk x = new AdmissionDesk();
            tape(x, "1=");
            bad(ILLEGAL, x::law);
            is(false, x.free());
        });
    }

    private static void traceNumbers() {
        goodTrace("terms 3, NUMBER: 1 digit, 0", 1, "0");
        goodTrace("terms 3, NUMBER: 5 digits, 99999 and 00000", 2, "99999 00000");
        wrongTrace("terms 3, NUMBER: 6 digits, 100000", 2, "7 100000");
        wrongTrace("terms 3, NUMBER: 6 digits, 000001", 2, "7 000001");
        wrongTrace("terms 3, NUMBER: 6 digits behind -", 4, "7 8-100000");
        wrongTrace("terms 3, NUMBER: 6 digits behind -, of 0", 4, "7 8-000009");
        wrongTrace("terms 3, NUMBER: 30 digits", 0, "123456789012345678901234567890");
        goodTrace("terms 3, ITEM: a second NUMBER like the first, 1 ASK", 1, "7-7");
        goodTrace("terms 3, ITEM: a second NUMBER 1 above the first, 2 ASKS", 2, "7-8");
        goodTrace("terms 3, ITEM: 99999-99999", 1, "99999-99999");
        wrongTrace("terms 3, ITEM: a second NUMBER 1 below the first, at its first byte", 2, "7-6");
        wrongTrace("terms 3, ITEM: a second NUMBER of fewer digits, at its first byte", 7, "10000- 9999");
        wrongTrace("terms 3, ITEM: a second NUMBER below, TIMES behind it", 2, "7-6*2");
        wrongTrace("terms 3, ITEM: a third NUMBER", 3, "7-8-9");
        wrongTrace("terms 3, ITEM: - alone, at the end", 2, "7-");
        wrongTrace("terms 3, ITEM: - behind a bracket", 3, "(7)-8");
        told("promise 6, trace: all the ASKS, up, one behind another", () -> {
            AdmissionDesk x = desk("8-10 99998-99999 7 (3*2 5)*2");
            history(x, 8, 9, 10, 99998, 99999, 7, 3, 3, 5, 3, 3, 5);
        });
        told("promise 6, trace: 8-9*2 goes up twice", () -> history(desk("8-9*2"), 8, 9, 8, 9));
        told("promise 6, trace: brackets within one another", () ->
            history(desk("(1 (2 3)*2 4)*2"), 1, 2, 3, 2, 3, 4, 1, 2, 3, 2, 3, 4));
        told("promise 6, trace: no blanks, brackets beside NUMBERS", () -> history(desk("1(2)*2(3)4"), 1, 2, 2, 3, 4));
        told("promise 6, trace: how many were HITS, none, some, those of this TRACE alone", () -> {
            AdmissionDesk x = new AdmissionDesk();
            is(0, trace(x, "1-9"));
            is(3, trace(x, "9*3 10"));
            is(1, trace(x, "10"));
            is(4, x.count(1));
        });
    }

    private static void traceTimes() {
        goodTrace("terms 3, TIMES: 1", 1, "7*1");
        goodTrace("terms 3, TIMES: 100", 100, "7*100");
        goodTrace("terms 3, TIMES: 5 digits, 00100", 100, "7*00100");
        goodTrace("terms 3, TIMES: 1 and 100 of a bracket", 101, "(7)*1 (8)*100");
        wrongTrace("terms 3, TIMES: 0", 2, "7*0");
        wrongTrace("terms 3, TIMES: 00000", 2, "7*00000");
        wrongTrace("terms 3, TIMES: 101", 2, "7*101");
        wrongTrace("terms 3, TIMES: 99999", 3, "7* 99999");
        wrongTrace("terms 3, TIMES: 6 digits, 000001", 2, "7*000001");
        wrongTrace("terms 3, TIMES: 0 of a bracket", 4, "(7)*0");
        wrongTrace("terms 3, TIMES: 101 of a bracket", 4, "(7)*101");
        wrongTrace("terms 3, TIMES: 0 of many", 4, "7-9*0");
        wrongTrace("terms 3, TIMES: none behind *", 2, "7*");
        wrongTrace("terms 3, TIMES: none behind *, a bracket", 2, "7*(8)");
        wrongTrace("terms 3, TIMES: a second one", 3, "7*2*2");
        wrongTrace("terms 3, TIMES: without an ITEM", 0, "*2");
        wrongTrace("terms 3, TIMES: - behind them", 3, "7*2-9");
    }

    private static void traceBrackets() {
        goodTrace("terms 3, brackets: 6 within one another", 1, "((((((7))))))");
        wrongTrace("terms 3, brackets: the seventh within one another", 6, "(((((((7)))))))");
        wrongTrace("terms 3, brackets: the seventh, behind an ITEM and blanks", 10, "(((((( 7  (8)))))))");
        goodTrace("terms 3, brackets: 6 within one another, and 6 again", 2, "((((((7))))))((((((8))))))");
        goodTrace("terms 3, brackets: more than 6 beside one another", 9, "(7)".repeat(9));
        wrongTrace("terms 3, brackets: the seventh, behind 6 that were closed but one", 17, "((((((7)))))((((((8");
        wrongTrace("terms 3, brackets: round nothing", 1, "()");
        wrongTrace("terms 3, brackets: round blanks", 3, "(  )");
        wrongTrace("terms 3, brackets: one that closes none", 2, "7 )");
        wrongTrace("terms 3, brackets: one that is not closed", 2, "(7");
        wrongTrace("terms 3, brackets: one that is not closed, blanks behind it", 4, "(7  ");
    }

    private static void traceAsks() {
        goodTrace("terms 3, ASKS: 499", 499, "0-498");
        goodTrace("terms 3, ASKS: 500 of one ITEM", 500, "0-499");
        goodTrace("terms 3, ASKS: 500 by TIMES", 500, "0-4*100");
        goodTrace("terms 3, ASKS: 500 of two ITEMS", 500, "0-498 7");
        goodTrace("terms 3, ASKS: 500 of a bracket", 500, "(0-249)*2");
        goodTrace("terms 3, ASKS: 500 of brackets within one another", 500, "((((((7*5)*2)*5)*2)*5)*1)");
        goodTrace("terms 3, ASKS: 500 of ITEMS ahead of, in, behind a bracket", 500, "0-99 (0-99 0-48 7)*2 0-99");
        wrongTrace("terms 3, ASKS: 501 of one ITEM", 0, "0-500");
        wrongTrace("terms 3, ASKS: 501, the NUMBER of the second ITEM", 6, "0-499 7");
        wrongTrace("terms 3, ASKS: 505 by a second ITEM", 8, "0-4*100 0-4");
        wrongTrace("terms 3, ASKS: 600 by TIMES, the ITEM's NUMBER", 2, "7 0-5*100");
        wrongTrace("terms 3, ASKS: 501, the third ITEM's NUMBER", 8, "0-498 7 8");
        wrongTrace("terms 3, ASKS: 502 of a bracket", 1, " (0-250)*2");
        wrongTrace("terms 3, ASKS: 501 of what is ahead of a bracket and it", 6, "0-400 (0-49)*2");
        wrongTrace("terms 3, ASKS: the outer bracket", 0, "((0-99)*3 7)*2");
        wrongTrace("terms 3, ASKS: the inner bracket", 1, "((0-99)*6 7)*2");
        wrongTrace("terms 3, ASKS: the ITEM within a bracket", 11, "((0-99)*5 (7))*1");
        wrongTrace("terms 3, ASKS: the ITEM within a bracket that is not closed", 1, "(0-500");
        wrongTrace("terms 3, ASKS: what is ahead counts within a bracket", 12, "1-400 (1-50 1-60)");
        wrongTrace("terms 3, ASKS: ten millions", 0, "0-99999*100");
        wrongTrace("terms 3, ASKS: a bracket of 500, twice, twice", 1, "((0-499)*2)*2");
        wrongTrace("terms 3, ASKS: too many in 400 bytes", 396, "7*99 ".repeat(5) + "7 7 7 7 7" + " ".repeat(362) + "7*2 ");
        told("terms 3, ASKS: 500 are asked for, 501 are not, and nothing is COUNTED", () -> {
            AdmissionDesk x = new AdmissionDesk();
            tape(x, "7*100 7*100 7*100 7*100 7*100 7");
            bad(ILLEGAL, x::trace);
            is(30, x.fault());
            is(0, x.count(0));
            is(false, x.noted(7));
            is(499, trace(x, "7*100 7*100 7*100 7*100 7*100"));
            is(500, x.count(0));
        });
    }

    private static void traceFaults() {
        wrongTrace("promise 6, trace: an empty text", 0, "");
        wrongTrace("promise 6, trace: blanks alone", 3, "\n\t ");
        wrongTrace("promise 6, trace: a word at its first byte", 2, "7 abc");
        wrongTrace("promise 6, trace: a law is none", 1, "1=1");
        wrongTrace("promise 6, trace: byte 0", 1, "7\0");
        wrongTrace("promise 6, trace: byte 255", 1, "7\u00ff");
        wrongTrace("promise 6, trace: a digit with the highest bit", 1, "7\u00b7");
        wrongTrace("promise 6, trace: a comma", 1, "7,8");
        wrongTrace("promise 6, trace: the first one of two faults", 2, "7*0 8*0");
        goodTrace("promise 6, trace: 400 bytes", 200, "7 ".repeat(200));
        wrongTrace("promise 6, trace: 400 bytes, the last one wrong", 399, "7 ".repeat(199) + "7x");
        wrongTrace("promise 6, trace: 400 bytes, more must come", 400, "7 ".repeat(199) + "7*");
        wrongTrace("terms 3, THE FAULT: TIMES that are wrong go ahead of too many ASKS", 6, "0-500*101");
        wrongTrace("terms 3, THE FAULT: TIMES 0 go ahead of too many ASKS", 6, "0-500*0");
        wrongTrace("terms 3, THE FAULT: TIMES that must come go ahead of too many ASKS", 6, "0-500*");
        wrongTrace("terms 3, THE FAULT: a word for TIMES goes ahead of too many ASKS", 7, "0-500* x");
        wrongTrace("terms 3, THE FAULT: TIMES of a bracket that are wrong go ahead", 9, "(0-249)* 101");
        wrongTrace("terms 3, THE FAULT: TIMES of a bracket that must come go ahead", 8, "(0-249)*");
        wrongTrace("terms 3, THE FAULT: what is wrong in a bracket goes ahead of its TIMES", 7, "(0-249 x)*3");
        wrongTrace("terms 3, THE FAULT: too many ASKS go ahead of what is wrong behind the ITEM", 0, "0-500 x");
        wrongTrace("terms 3, THE FAULT: too many ASKS go ahead of a - behind the ITEM", 0, "0-500-600");
        wrongTrace("terms 3, THE FAULT: too many ASKS go ahead of a second *", 0, "0-99*6*7");
        wrongTrace("terms 3, THE FAULT: too many ASKS go ahead of a bracket that is not closed", 3, "(7 (0-99)*6");
        wrongTrace("terms 3, THE FAULT: too many ASKS go ahead of one too many later", 2, "7 0-499 0-499");
        wrongTrace("terms 3, THE FAULT: too many ASKS of an ITEM with blanks in it", 1, " 0 - 99 * 6 x");
    }

    /** All bytes between two tokens: what each of them makes of the text. */
    private static void blanks() {
        told("terms 3, BLANKS: of all bytes 9, 10, 32 alone stand between PARTS and words", () -> {
            for (int b = 0; b < 256; b++) {
                String text = "1=1" + (char) b;
                boolean isBlank = b == 9 || b == 10 || b == 32;
                AdmissionDesk x = new AdmissionDesk();
                tape(x, text);
                if (isBlank || b >= '0' && b <= '9') {
                    is(2, x.law());
                } else {
                    bad(ILLEGAL, x::law);
                    is(b == '+' || b == '-' ? 4 : 3, x.fault());
                }
            }
        });
        told("terms 3, BLANKS: of all bytes 9, 10, 32 alone stand between ITEMS", () -> {
            for (int b = 0; b < 256; b++) {
                AdmissionDesk x = new AdmissionDesk();
                tape(x, "1" + (char) b + "2");
                if (b == 9 || b == 10 || b == 32) {
                    x.trace();
                    history(x, 1, 2);
                } else if (b >= '0' && b <= '9') {
                    x.trace();
                    history(x, 102 + (b - '0') * 10);
                } else if (b == '*') {
                    x.trace();
                    history(x, 1, 1);
                } else if (b == '-') {
                    x.trace();
                    history(x, 1, 2);
                } else {
                    bad(ILLEGAL, x::trace);
                    is(b == '(' ? 3 : 1, x.fault());
                }
            }
        });
        for (String blank : new String[] {"", "\t", "\n", " ", " \n\t"}) {
            String name = blank.replace("\t", "9 ").replace("\n", "10 ").replace(" ", "32 ");
            goodLaw("terms 3, BLANKS: between all of a law, " + name, 6,
                "#not#(#(#cand#+#1#>#vict#)#and#(#1#-#2#<#door#)#)#".replace("#", blank));
            goodTrace("terms 3, BLANKS: between all of a trace, " + name, 9,
                "#(#(#7#-#9#)#*#2#)#8#-#8#*#3#".replace("#", blank));
        }
        wrongLaw("terms 3, BLANKS: none within a NUMBER", 4, "1=1 1");
        wrongLaw("terms 3, BLANKS: none within a word", 0, "c and = 1");
        goodTrace("terms 3, BLANKS: one within a NUMBER makes two", 2, "1 2");
    }

    /** Each beginning of a text: good where it may end, else the fault is at its end, or where a word is cut off. */
    private static void prefixes() {
        String[] law = {"not", " (", "cand", " +", " 12", "-", "key", " >", "\tvict", " and", " not", " 1", "=", "0123",
            ")!", " or", "\nhits", " <", "asks!", "+", "out!", " and", " (", "door", "=", "room", " )!", "or", " 7",
            "=", "7!"};
        told("terms 3, THE FAULT: each beginning of a law", () -> beginnings(law, true));
        String[] trace = {"(", " 12", " -", "\n15", "*", "07", "\t(", "6", ")", " *", " 12", " )!", "*", "1!", " 33!",
            "-", "44!", "*", "2!", "(", "5", ")!"};
        told("terms 3, THE FAULT: each beginning of a trace", () -> beginnings(trace, false));
    }

    /** A token with a ! may be the last one; blanks ahead of it are its own. */
    private static void beginnings(String[] tokens, boolean isLaw) {
        StringBuilder ahead = new StringBuilder();
        boolean mayEnd = false;
        for (String told : tokens) {
            String token = told.replace("!", "");
            int blanks = token.length() - token.trim().length();
            for (int n = 0; n < token.length(); n++) {
                String text = ahead + token.substring(0, n);
                boolean isWord = token.charAt(blanks) >= 'a';
                boolean isCut = isWord && n > blanks;
                boolean isPartOfNumber = !isWord && n > blanks;
                if (!isPartOfNumber) {
                    beginning(text, isLaw, mayEnd && !isCut, isCut ? ahead.length() + blanks : text.length());
                }
            }
            ahead.append(token);
            mayEnd = told.endsWith("!");
        }
        beginning(ahead.toString(), isLaw, mayEnd, ahead.length());
    }

    private static void beginning(String text, boolean isLaw, boolean isGood, int fault) {
        AdmissionDesk x = new AdmissionDesk();
        tape(x, text);
        Runnable call = isLaw ? x::law : x::trace;
        bad(isGood ? null : ILLEGAL, call);
        is(isGood ? NONE : fault, x.fault());
    }

    private static void fault() {
        told("promise 7, fault: NONE ahead of any text", () -> {
            AdmissionDesk x = new AdmissionDesk();
            is(NONE, x.fault());
            x.ask(7);
            x.feed(0, 0, 0, 0, 0);
            is(NONE, x.fault());
        });
        told("promise 7, fault: of the latest law(), trace(), NONE behind a good one", () -> {
            AdmissionDesk x = new AdmissionDesk();
            tape(x, "1=x");
            bad(ILLEGAL, x::law);
            is(2, x.fault());
            tape(x, "7 8 x");
            bad(ILLEGAL, x::trace);
            is(4, x.fault());
            law(x, "1=1");
            is(NONE, x.fault());
            tape(x, "x");
            bad(ILLEGAL, x::trace);
            is(0, x.fault());
            trace(x, "7");
            is(NONE, x.fault());
        });
        told("promise 7, fault: of an empty text 0, not NONE", () -> {
            AdmissionDesk x = new AdmissionDesk();
            bad(ILLEGAL, x::law);
            is(0, x.fault());
            trace(x, "7");
            bad(ILLEGAL, x::trace);
            is(0, x.fault());
        });
        told("promise 7, fault: no other call changes it, an exception of theirs neither", () -> {
            AdmissionDesk x = new AdmissionDesk();
            tape(x, "7 8 x");
            bad(ILLEGAL, x::trace);
            x.ask(7);
            bad(ILLEGAL, () -> x.ask(-1));
            bad(MISSING, () -> x.tell(9, 9));
            bad(STATE, x::back);
            x.keep();
            x.back();
            x.free();
            x.write();
            x.end(0);
            x.feed(1, 2, 3, 4, 5);
            is(4, x.fault());
        });
    }
}
