/** What the tests share: a text put on the tape of an object, and answers held against those that are due. */
final class Desk {
    private int wrong = 0;
    private int asked = 0;

    /** Puts a text on THE TAPE, twenty bytes a call, and cuts what the last call brought too much. */
    static void tape(MarkedProof x, String text) {
        int before = x.count(9);
        for (int i = 0; i < text.length(); i += 20) {
            x.feed(four(text, i), four(text, i + 4), four(text, i + 8), four(text, i + 12), four(text, i + 16));
        }
        x.end(before + text.length());
    }

    private static int four(String text, int at) {
        int n = 0;
        for (int i = at; i < at + 4; i++) {
            n = n << 8 | (i < text.length() ? text.charAt(i) & 255 : 0);
        }
        return n;
    }

    static int first(MarkedProof x, String text) {
        tape(x, text);
        return x.first();
    }

    static int second(MarkedProof x, String text) {
        tape(x, text);
        return x.second();
    }

    static int marks(MarkedProof x, String text) {
        tape(x, text);
        return x.marks();
    }

    static String nameOf(long word) {
        StringBuilder name = new StringBuilder();
        for (long w = word; w != 0; w >>>= 8) {
            name.insert(0, (char) (w & 255));
        }
        return name.toString();
    }

    /** The WORDS of a text of the object, with one blank between. */
    static String text(MarkedProof x, int t) {
        StringBuilder all = new StringBuilder();
        for (int i = 0; x.word(t, i) != 0; i++) {
            all.append(i == 0 ? "" : " ").append(nameOf(x.word(t, i)));
        }
        return all.toString();
    }

    void due(String what, long got, long want) {
        asked++;
        if (got != want) {
            wrong++;
            System.out.println(what + " answered " + got + ", due is " + want);
        }
    }

    void due(String what, String got, String want) {
        asked++;
        if (!got.equals(want)) {
            wrong++;
            System.out.println(what + " answered '" + got + "', due is '" + want + "'");
        }
    }

    /** A text of MARKS that has a FAULT (kind 0: none). */
    void dueFault(MarkedProof x, String text, int kind, int place) {
        int before = x.count(3);
        int came = marks(x, text);
        due("fault(0) of " + text, x.fault(0), kind);
        due("fault(1) of " + text, x.fault(1), place);
        due("count(9) behind " + text, x.count(9), 0);
        if (kind != 0) {
            due("marks() of " + text, came, -1);
            due("count(3) behind " + text, x.count(3), before);
        }
    }

    boolean isAbove(int most) {
        return wrong > most;
    }

    void close() {
        System.out.println(asked + " answers asked, " + wrong + " not as due");
        if (wrong != 0) {
            System.exit(1);
        }
    }
}
