/** What the tests share: a text put on the tape of an object, and answers held against those that are due. */
final class Desk {
    private int wrong = 0;
    private int asked = 0;
    private String sentence = "";

    /** Puts a text on THE TAPE, twenty bytes a call, and cuts what the last call brought too much. */
    static void tape(MarkedProof x, String text) {
        int before = x.count(9);
        for (int i = 0; i < text.length(); i += 20) {
            x.feed(four(text, i), four(text, i + 4), four(text, i + 8), four(text, i + 12), four(text, i + 16));
        }
        x.end(before + text.length());
    }

    private static int four(String text, int at) {
        int n = 0;
        for (int i = at; i < at + 4; i++) {
            n = n << 8 | (i < text.length() ? text.charAt(i) & 255 : 0);
        }
        return n;
    }

    static int first(MarkedProof x, String text) {
        tape(x, text);
        return x.first();
    }

    static int second(MarkedProof x, String text) {
        tape(x, text);
        return x.second();
    }

    static int marks(MarkedProof x, String text) {
        tape(x, text);
        return x.marks();
    }

    /** A new object with a first proof and MARKS on it. */
    static MarkedProof open(String first, String marks) {
        MarkedProof x = new MarkedProof();
        first(x, first);
        marks(x, marks);
        return x;
    }

    /** A proof of so many WORDS, each its own: w0 w1 w2 .. */
    static String proofOf(int words) {
        StringBuilder all = new StringBuilder();
        for (int i = 0; i < words; i++) {
            all.append(i == 0 ? "w" : " w").append(i);
        }
        return all.toString();
    }

    /** All that an object tells of its state, so that a refused call can be seen to have changed nothing. */
    static String all(MarkedProof x) {
        StringBuilder told = new StringBuilder();
        for (int what = 0; what <= 12; what++) {
            told.append(x.count(what)).append(' ');
        }
        for (int t = 0; t < 3; t++) {
            told.append('/').append(text(x, t));
        }
        for (int k = 0; k < x.count(3); k++) {
            for (int what = 0; what < 16; what++) {
                told.append(what == 0 ? '/' : ' ').append(x.mark(k, what));
            }
        }
        for (int what = 0; what < 18; what++) {
            told.append(what == 0 ? '/' : ' ').append(x.held(what));
        }
        for (int i = 0; x.unasked(i, 0) != MarkedProof.NONE; i++) {
            told.append('/').append(x.unasked(i, 0)).append(' ').append(x.unasked(i, 1)).append(' ').append(x.unasked(i, 2));
        }
        return told.append('/').append(x.pays(0)).append(' ').append(x.pays(1)).append(' ').append(x.fault(0)).append(' ')
            .append(x.fault(1)).toString();
    }

    static String nameOf(long word) {
        StringBuilder name = new StringBuilder();
        for (long w = word; w != 0; w >>>= 8) {
            name.insert(0, (char) (w & 255));
        }
        return name.toString();
    }

    /** The WORDS of a text of the object, with one blank between. */
    static String text(MarkedProof x, int t) {
        StringBuilder all = new StringBuilder();
        for (int i = 0; x.word(t, i) != 0; i++) {
            all.append(i == 0 ? "" : " ").append(nameOf(x.word(t, i)));
        }
        return all.toString();
    }

    /** A test of one sentence of the document: what goes wrong in it is told with the sentence. */
    void says(String told, Runnable test) {
        int before = asked;
        sentence = "'" + told + "': ";
        test.run();
        due("answers asked", asked > before ? 1 : 0, 1);
        sentence = "";
    }

    void due(String what, long got, long want) {
        asked++;
        if (got != want) {
            wrong++;
            System.out.println(sentence + what + " answered " + got + ", due is " + want);
        }
    }

    void due(String what, String got, String want) {
        asked++;
        if (!got.equals(want)) {
            wrong++;
            System.out.println(sentence + what + " answered '" + got + "', due is '" + want + "'");
        }
    }

    /** A text of MARKS that has a FAULT (kind 0: none). */
    void dueFault(MarkedProof x, String text, int kind, int place) {
        int before = x.count(3);
        int came = marks(x, text);
        due("fault(0) of " + text, x.fault(0), kind);
        due("fault(1) of " + text, x.fault(1), place);
        due("count(9) behind " + text, x.count(9), 0);
        if (kind != 0) {
            due("marks() of " + text, came, -1);
            due("count(3) behind " + text, x.count(3), before);
        }
    }

    boolean isAbove(int most) {
        return wrong > most;
    }

    void close() {
        System.out.println(asked + " answers asked, " + wrong + " not as due");
        if (wrong != 0) {
            System.exit(1);
        }
    }
}
