/** How AdmissionDesk is used; README.md quotes this file. */
public final class Example {
    public static void main(String[] args) {
        AdmissionDesk desk = new AdmissionDesk();

        // Asks: the part that the key was in, 0 for a miss.
        System.out.println("ask 7: " + desk.ask(7) + ", again: " + desk.ask(7) + ", estimate: " + desk.estimate(7));

        // A trace: twelve asks at once, how many were hits.
        tape(desk, "(1-4 7)*2 50*2");
        System.out.println("hits of the trace: " + desk.trace());
        System.out.println("asks: " + desk.count(0) + ", 7 is in part " + desk.where(7));

        // A law: who leaves the window wins if this holds, not only if it was asked for more often.
        tape(desk, "cand > vict or key = 3 and not asks < 100");
        System.out.println("parts of the law: " + desk.law());

        // A wrong text is refused, and the fault is its first wrong byte; the law is what it was.
        tape(desk, "cand > victim");
        try {
            desk.law();
        } catch (IllegalArgumentException e) {
            System.out.println("fault: " + desk.fault() + ", parts of the law: " + desk.count(18));
        }

        // A smaller room: what it was, who went out then.
        desk.keep();
        System.out.println("room was " + desk.tell(0, 3) + ", keys now: " + desk.count(6) + ", out: " + desk.out(0));
        System.out.println("asks when it was kept: " + desk.back() + ", room: " + desk.count(8));

        // The latest asks, looked at and played again.
        System.out.println("best door: " + desk.best(false) + ", its hits: " + desk.best(true));
        System.out.println("one row of 5 keys: " + desk.plain(5) + ", ideal: " + desk.ideal(5));
        System.out.println("written: " + written(desk));
    }

    /** Puts a text of at most 400 bytes on the tape: twenty bytes a call, then what is too much is cut. */
    private static void tape(AdmissionDesk desk, String text) {
        desk.end(0);
        for (int k = 0; k < text.length(); k += 20) {
            desk.feed(four(text, k), four(text, k + 4), four(text, k + 8), four(text, k + 12), four(text, k + 16));
        }
        desk.end(text.length());
    }

    /** Four bytes as one number, the highest first; zeros behind the text's end. */
    private static int four(String text, int from) {
        int number = 0;
        for (int k = from; k < from + 4; k++) {
            number = number << 8 | (k < text.length() ? text.charAt(k) & 255 : 0);
        }
        return number;
    }

    private static String written(AdmissionDesk desk) {
        StringBuilder text = new StringBuilder();
        int bytes = desk.write();
        for (int k = 0; k < bytes; k++) {
            text.append((char) desk.octet(k));
        }
        return text.toString();
    }
}
