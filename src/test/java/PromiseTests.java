/** Each promise by its number: ordinary inputs, the edges that the document names, and wrong inputs. */
public final class PromiseTests {
    private static final Desk DESK = new Desk();
    private static final int MIN = Integer.MIN_VALUE;
    private static final int MAX = Integer.MAX_VALUE;

    public static void main(String[] args) {
        newObject();
        feedAndEnd();
        proofs();
        proofFaults();
        marksRead();
        syntaxFaults();
        rangeFaults();
        roomFaults();
        words();
        markTold();
        answers();
        stets();
        ranks();
        meets();
        withins();
        overruled();
        textOfOne();
        textOfGaps();
        textOfNested();
        holds();
        heldIsKept();
        unaskedPath();
        distances();
        nextProof();
        errorsAndPrices();
        counts();
        DESK.close();
    }

    private static void due(String what, long got, long want) {
        DESK.due(what, got, want);
    }

    private static MarkedProof desk(String first, String marks) {
        MarkedProof x = new MarkedProof();
        Desk.first(x, first);
        int came = Desk.marks(x, marks);
        due("fault of " + marks, x.fault(0), 0);
        due("came of " + marks, came, x.count(3));
        return x;
    }

    private static void dueText(String first, String marks, String text) {
        DESK.due("THE TEXT of '" + marks + "' on '" + first + "'", Desk.text(desk(first, marks), 2), text);
    }

    private static String repeat(String s, int n) {
        StringBuilder all = new StringBuilder();
        for (int i = 0; i < n; i++) {
            all.append(s);
        }
        return all.toString();
    }

    private static void newObject() {
        MarkedProof x = new MarkedProof();
        for (int what = 0; what <= 9; what++) {
            due("1: count(" + what + ")", x.count(what), 0);
        }
        due("1: author", x.count(10), 0);
        due("1: reader", x.count(11), 1);
        due("1: printer", x.count(12), 2);
        due("1: word", x.word(0, 0) + x.word(1, 0) + x.word(2, 0), 0);
        due("1: fault(0)", x.fault(0), 0);
        due("1: fault(1)", x.fault(1), -1);
        due("1: held", x.held(0) + x.held(1) + x.held(2) + x.held(10), -4);
        due("1: unasked", x.unasked(0, 0), -1);
        due("1: hold", x.hold(), 0);
        due("1: next", x.next(), MarkedProof.STATE);
        due("1: pays", x.pays(0) + x.pays(1), 0);
        due("1: a PUT fits an empty proof", Desk.marks(x, "author put 0 = all; reader put 0 = right;"), 2);
        DESK.due("1: its text", Desk.text(x, 2), "all right");
    }

    private static void feedAndEnd() {
        MarkedProof x = new MarkedProof();
        due("2: feed", x.feed(0x61626364, 0x65662067, 0x20686920, 0x6a6b6c6d, 0x0a6e2e2d), 20);
        due("3: end(20)", x.end(20), 20);
        due("3: end(21)", x.end(21), MarkedProof.NONE);
        due("3: end(-1)", x.end(-1), MarkedProof.NONE);
        due("3: end(min)", x.end(MIN), MarkedProof.NONE);
        due("3: end(max)", x.end(MAX), MarkedProof.NONE);
        due("3: count(9)", x.count(9), 20);
        due("2: highest byte first", x.first(), 5);
        DESK.due("2: words", Desk.text(x, 0), "abcdef g hi jklm n.-");
        for (int i = 1; i <= 100; i++) {
            due("2: feed " + i, x.feed(-1, 0, MIN, MAX, 1), 20 * i);
        }
        due("2: no room", x.feed(0, 0, 0, 0, 0), MarkedProof.FULL);
        due("2: 2000 stay", x.count(9), 2000);
        due("3: end(1981)", x.end(1981), 1981);
        due("2: 2001 would be too many", x.feed(0, 0, 0, 0, 0), MarkedProof.FULL);
        due("3: end(1980)", x.end(1980), 1980);
        due("2: the last twenty", x.feed(0, 0, 0, 0, 0), 2000);
        due("3: end(0)", x.end(0), 0);
        due("3: what was cut is gone", x.end(1), MarkedProof.NONE);
    }

    private static void proofs() {
        MarkedProof x = new MarkedProof();
        due("4: empty", x.first(), 0);
        due("4: blanks alone", Desk.first(x, " \n \n"), 0);
        due("4: blanks around", Desk.first(x, "\n one\n\ntwo  "), 2);
        DESK.due("4: words", Desk.text(x, 0), "one two");
        due("4: every byte", Desk.first(x, "azAZ09.,\n'!?;:- abcdefgh"), 3);
        DESK.due("4: words", Desk.text(x, 0), "azAZ09., '!?;:- abcdefgh");
        due("4: sixty", Desk.first(x, repeat("a ", 60)), 60);
        due("5: 150", Desk.second(x, repeat("b\n", 150)), 150);
        due("5: the first one stays", x.count(0), 60);
        due("5: the tape is read", x.count(9), 0);
        due("4: MARKS", Desk.marks(x, "author strike 0 59;"), 1);
        due("5: the MARKS stay", Desk.second(x, "c"), 1);
        due("5: the MARKS stay", x.count(3), 1);
        due("4: a new first", Desk.first(x, "d e"), 2);
        due("4: no MARKS then", x.count(3), 0);
        due("4: the second stays", x.count(1), 1);
        DESK.due("4: THE TEXT", Desk.text(x, 2), "d e");
        Desk.marks(x, "author strike 0 0;");
        due("4: an empty tape is a proof too", x.first(), 0);
        due("4: no MARKS then", x.count(3), 0);
    }

    private static void proofFault(boolean isFirst, String text, int kind, int place) {
        MarkedProof x = desk("one two", "author strike 0 0;");
        Desk.second(x, "three");
        Desk.tape(x, text);
        due("4, 5: read '" + text + "'", isFirst ? x.first() : x.second(), MarkedProof.NONE);
        due("7: KIND of '" + text + "'", x.fault(0), kind);
        due("7: PLACE of '" + text + "'", x.fault(1), place);
        due("4, 5: the tape is read", x.count(9), 0);
        DESK.due("4: the first stays", Desk.text(x, 0), "one two");
        DESK.due("5: the second stays", Desk.text(x, 1), "three");
        due("4: the MARKS stay", x.count(3), 1);
    }

    private static void proofFaults() {
        for (int i = 0; i < 2; i++) {
            boolean isFirst = i == 0;
            proofFault(isFirst, "a *", 1, 2);
            proofFault(isFirst, "ab=c", 1, 2);
            proofFault(isFirst, "\t", 1, 0);
            proofFault(isFirst, "a\rb", 1, 1);
            proofFault(isFirst, "a" + (char) 233, 1, 1);
            proofFault(isFirst, "a" + (char) 0, 1, 1);
            proofFault(isFirst, "a/b", 1, 1);
            proofFault(isFirst, "a@b", 1, 1);
            proofFault(isFirst, "a[b", 1, 1);
            proofFault(isFirst, "a`b", 1, 1);
            proofFault(isFirst, "a{b", 1, 1);
            proofFault(isFirst, "a\"b", 1, 1);
            proofFault(isFirst, "xx abcdefghi", 1, 11);
            proofFault(isFirst, "xx abcdefgh* *", 1, 11);
        }
        proofFault(true, repeat("a ", 60) + " bc", 3, 121);
        proofFault(true, repeat("a ", 60) + " *", 1, 121);
        proofFault(true, repeat("a ", 60) + "b *", 3, 120);
        proofFault(false, repeat("a ", 150) + "bc", 3, 300);
        proofFault(false, repeat("a ", 149) + "b c", 3, 300);
        MarkedProof x = new MarkedProof();
        Desk.first(x, "*");
        due("7: KIND", x.fault(0), 1);
        due("7: another what", x.fault(2), -1);
        due("7: another what", x.fault(-1), -1);
        Desk.second(x, "good");
        due("7: the latest text has none", x.fault(0), 0);
        due("7: no PLACE", x.fault(1), -1);
    }

    private static void marksRead() {
        MarkedProof x = desk("a b c d", " \nauthor?strike 0 1;reader put004=x y;\nprinter ? change\n1 2=p\nq;"
            + "author turn 0 1 3;reader move 2 3 0;printer stet 4;");
        due("6: six came", x.count(3), 6);
        due("6: none more of an empty text", x.marks(), 0);
        due("6: none more of blanks", Desk.marks(x, " \n "), 0);
        due("6: six stay", x.count(3), 6);
        due("6: two more", Desk.marks(x, "author strike 0 0;author stet 6;"), 2);
        due("6: eight", x.count(3), 8);
        due("6: the number as told", x.mark(1, 2), 4);
        due("6: a ? is a WORD's byte", Desk.marks(x, "author put 0 = ?;"), 1);
        due("6: so it is", x.mark(8, 10), '?');
        due("6: a query on a put", Desk.marks(x, "author ? put 0 = author x;"), 1);
        due("6: it WAITS", x.mark(9, 6), 3);
        due("6: two WORDS", x.mark(9, 5), 2);
    }

    private static void syntaxFaults() {
        MarkedProof x = desk("a b c d", "author put 0 = z;");
        DESK.dueFault(x, "bob strike 0 1;", 1, 0);
        DESK.dueFault(x, "authors strike 0 1;", 1, 0);
        DESK.dueFault(x, "autho strike 0 1;", 1, 0);
        DESK.dueFault(x, "Author strike 0 1;", 1, 0);
        DESK.dueFault(x, "author Strike 0 1;", 1, 7);
        DESK.dueFault(x, ";", 1, 0);
        DESK.dueFault(x, "author strike 0 1;;", 1, 18);
        DESK.dueFault(x, "author", 1, 6);
        DESK.dueFault(x, "author  ", 1, 8);
        DESK.dueFault(x, "author ?", 1, 8);
        DESK.dueFault(x, "author ? ? strike 0 0;", 1, 9);
        DESK.dueFault(x, "author ?stet 0;", 1, 8);
        DESK.dueFault(x, "author stet 0", 1, 13);
        DESK.dueFault(x, "author stet ?;", 1, 12);
        DESK.dueFault(x, "author strike 0;", 1, 15);
        DESK.dueFault(x, "author strike 0 1 2;", 1, 18);
        DESK.dueFault(x, "author strike 0 1 = x;", 1, 18);
        DESK.dueFault(x, "author strike 0 1", 1, 17);
        DESK.dueFault(x, "author strike x 1;", 1, 14);
        DESK.dueFault(x, "author strike 0001 1;", 1, 14);
        DESK.dueFault(x, "author strike 1234 1;", 1, 14);
        DESK.dueFault(x, "author strike 000 001;", 0, -1);
        DESK.dueFault(x, "author strike 1x 1;", 1, 15);
        DESK.dueFault(x, "author strike -1 1;", 1, 14);
        DESK.dueFault(x, "author put 0 x;", 1, 13);
        DESK.dueFault(x, "author put 0 0 = x;", 1, 13);
        DESK.dueFault(x, "author put 0 =;", 1, 14);
        DESK.dueFault(x, "author put 0 = ", 1, 15);
        DESK.dueFault(x, "author put 0 = x", 1, 16);
        DESK.dueFault(x, "author put 0 = x  ", 1, 18);
        DESK.dueFault(x, "author put 0 = abcdefgh abcdefghi;", 1, 24);
        DESK.dueFault(x, "author put 0 = abcdefghi", 1, 15);
        DESK.dueFault(x, "author put 0 = x ab\tc;", 1, 17);
        DESK.dueFault(x, "author put 0 == x;", 1, 14);
        DESK.dueFault(x, "author put 0 = x=;", 1, 15);
        DESK.dueFault(x, "author put 0 = x" + (char) 200 + ";", 1, 15);
        DESK.dueFault(x, "author change 0 = x;", 1, 16);
        DESK.dueFault(x, "author turn 0 1;", 1, 15);
        DESK.dueFault(x, "author move 0 1;", 1, 15);
        DESK.dueFault(x, "author\tstrike 0 1;", 1, 6);
        DESK.dueFault(x, "author strike 0 1;" + (char) 0, 1, 18);
        DESK.dueFault(x, "author strike 0 1; author strike 0 1", 1, 36);
        DESK.dueFault(x, "author strike 0 1: author", 1, 17);
    }

    private static void rangeFaults() {
        MarkedProof x = desk("a b c d", "author put 0 = z; author stet 0;");
        DESK.dueFault(x, "author strike 4 9x", 2, 14);
        DESK.dueFault(x, "author strike 3 3;", 0, -1);
        DESK.dueFault(x, "author strike 2 1;", 2, 16);
        DESK.dueFault(x, "author strike 2 4;", 2, 16);
        DESK.dueFault(x, "author strike 2 999;", 2, 16);
        DESK.dueFault(x, "author change 4 4 = x;", 2, 14);
        DESK.dueFault(x, "author change 3 2 = x;", 2, 16);
        DESK.dueFault(x, "author change 3 4 = x;", 2, 16);
        DESK.dueFault(x, "author put 5 = abcdefghi;", 2, 11);
        DESK.dueFault(x, "author put 4 = x;", 0, -1);
        DESK.dueFault(x, "author turn 3 x", 2, 12);
        DESK.dueFault(x, "author turn 2 2 3;", 2, 14);
        DESK.dueFault(x, "author turn 2 4 4;", 2, 14);
        DESK.dueFault(x, "author turn 1 3 2;", 2, 16);
        DESK.dueFault(x, "author turn 1 3 4;", 2, 16);
        DESK.dueFault(x, "author turn 2 3 3;", 0, -1);
        DESK.dueFault(x, "author move 4 4 0;", 2, 12);
        DESK.dueFault(x, "author move 2 1 0;", 2, 14);
        DESK.dueFault(x, "author move 2 4 0;", 2, 14);
        DESK.dueFault(x, "author move 0 3 0;", 2, 14);
        DESK.dueFault(x, "author move 0 2 4;", 0, -1);
        DESK.dueFault(x, "author move 0 2 3;", 2, 16);
        DESK.dueFault(x, "author move 1 3 1;", 2, 16);
        DESK.dueFault(x, "author move 1 2 2;", 2, 16);
        DESK.dueFault(x, "author move 1 2 3;", 2, 16);
        DESK.dueFault(x, "author move 1 2 4;", 0, -1);
        DESK.dueFault(x, "author move 1 2 5;", 2, 16);
        DESK.dueFault(x, "author move 1 3 0;", 0, -1);
        DESK.dueFault(x, "author stet 1;", 2, 12);
        DESK.dueFault(x, "author stet " + x.count(3) + ";", 2, 12);
        DESK.dueFault(x, "author strike 0 0; author stet " + x.count(3) + ";", 0, -1);
        DESK.dueFault(x, "author stet 999;", 2, 12);
        MarkedProof one = desk("a", "");
        DESK.dueFault(one, "author move 0 0 0;", 2, 12);
        DESK.dueFault(one, "author turn 0 0 0;", 2, 12);
        DESK.dueFault(one, "author put 1 = x; author stet 0; author stet 1;", 2, 45);
        DESK.dueFault(one, "author stet 0;", 2, 12);
        MarkedProof none = desk("", "");
        DESK.dueFault(none, "author strike 0 0;", 2, 14);
        DESK.dueFault(none, "author put 1 = x;", 2, 11);
    }

    private static void roomFaults() {
        MarkedProof x = desk("a", "author put 0 = a b c d e f;");
        DESK.dueFault(x, "author put 0 = a b c d e f g;", 3, 27);
        DESK.dueFault(x, "author put 0 = a b c d e f g*;", 1, 27);
        DESK.dueFault(x, "author put 0 = a b c d e f ghijklmno;", 1, 27);
        DESK.dueFault(x, "author change 0 0 = a b c d e f g;", 3, 32);
        due("6: 39 more", Desk.marks(x, repeat("author stet 0;\n", 39)), 39);
        due("6: forty", x.count(3), 40);
        DESK.dueFault(x, " author x", 3, 1);
        DESK.dueFault(x, " autor x", 1, 1);
        DESK.dueFault(x, ";", 1, 0);
        DESK.dueFault(x, "", 0, -1);
        MarkedProof y = desk("a", "");
        DESK.dueFault(y, repeat("author put 0=x;", 40) + "printer", 3, 600);
        due("6: forty in one text", Desk.marks(y, repeat("author put 0=x;", 40)), 40);
        due("23: forty", y.count(5), 40);
        due("23: THE TEXT", y.count(2), 41);
        due("15: too many", y.hold(), MarkedProof.FULL);
    }

    private static void words() {
        MarkedProof x = desk("abcdefgh b", "author put 2 = Zz;");
        Desk.second(x, "!");
        due("8: eight bytes", x.word(0, 0), 0x6162636465666768L);
        due("8: one byte", x.word(0, 1), 'b');
        due("8: the second", x.word(1, 0), '!');
        due("8: THE TEXT", x.word(2, 2), 'Z' * 256 + 'z');
        due("8: behind the last", x.word(0, 2) + x.word(1, 1) + x.word(2, 3), 0);
        due("8: ahead of the first", x.word(0, -1) + x.word(1, MIN) + x.word(2, -1), 0);
        due("8: far behind", x.word(0, MAX) + x.word(1, 150) + x.word(2, 300), 0);
        due("8: no such text", x.word(3, 0) + x.word(-1, 0) + x.word(MAX, 0), 0);
        Desk.first(x, "c d e");
        Desk.first(x, "f");
        due("8: of an older proof nothing is left", x.word(0, 1), 0);
    }

    private static void dueMark(MarkedProof x, int k, int... told) {
        for (int what = 0; what < told.length; what++) {
            due("9: mark(" + k + ", " + what + ")", x.mark(k, what), told[what]);
        }
    }

    private static void markTold() {
        MarkedProof x = desk("a b c d", "author strike 0 1; reader put 4 = xy abcdefgh; printer change 1 2 = p;"
            + "reader turn 0 1 3; printer ? move 2 3 0; author stet 3; author stet 3;");
        dueMark(x, 0, 0, 0, 0, 1, -1, 0, 0, -1, 0, -9, -9);
        dueMark(x, 1, 1, 1, 4, -1, -1, 2, 0, -1, 0, -9, 'x' * 256 + 'y', 0x65666768, -9);
        dueMark(x, 2, 2, 2, 1, 2, -1, 1, 1, 0, 0, -9, 'p', -9);
        dueMark(x, 3, 3, 1, 0, 1, 3, 0, 2, 5, 0, -9, -9);
        dueMark(x, 4, 4, 2, 2, 3, 0, 0, 3, -1, 0, -9, -9);
        dueMark(x, 5, 5, 0, 3, -1, -1, 0, 4, -1, 0, -9, -9);
        due("9: error", x.error(1, true), 1);
        due("9: it is one", x.mark(1, 8), 1);
        due("9: no such MARK", x.mark(7, 0), -9);
        due("9: no such MARK", x.mark(-1, 0), -9);
        due("9: no such MARK", x.mark(MIN, 6) + x.mark(MAX, 6), -18);
        due("9: no such what", x.mark(0, -1) + x.mark(0, MIN) + x.mark(0, MAX) + x.mark(0, 9), -36);
        Desk.marks(x, "author strike 9");
        due("9: none of a text with a FAULT", x.mark(7, 0), -9);
        Desk.first(x, "a");
        due("9: none of an older proof", x.mark(0, 0), -9);
        Desk.marks(x, "reader put 1 = q;");
        dueMark(x, 0, 1, 1, 1, -1, -1, 1, 0, -1, 0, -9, 'q', -9);
    }

    private static void answers() {
        MarkedProof x = desk("a b", "author ? strike 0 0; reader ? put 2 = c; author strike 1 1; author stet 2; printer?put 0 = d;"
            + " author stet 4;");
        due("10: no such", x.answer(6, true) + x.answer(-1, true), 2 * MarkedProof.RANGE);
        due("10: it ASKED from the first", x.answer(2, true), MarkedProof.STATE);
        due("10: a STET", x.answer(3, true), MarkedProof.STATE);
        due("10: VOID by a STET", x.answer(4, true), MarkedProof.STATE);
        DESK.due("10: they WAIT", Desk.text(x, 2), "a b");
        due("10: yes", x.answer(0, true), 1);
        DESK.due("10: it is done", Desk.text(x, 2), "b");
        due("10: no", x.answer(1, false), 1);
        due("10: it is VOID", x.mark(1, 6), 2);
        due("10: by none", x.mark(1, 7), -1);
        due("10: not twice", x.answer(0, false), MarkedProof.STATE);
        due("10: not twice", x.answer(1, true), MarkedProof.STATE);
        Desk.marks(x, "author stet 1;");
        due("10: a STET behind it", x.mark(1, 7), -1);
        due("10: still VOID", x.mark(1, 6), 2);
    }

    private static void stets() {
        MarkedProof x = desk("a b c", "author strike 0 2; reader strike 1 1; printer stet 0; author stet 0;");
        due("6: VOID by the first STET", x.mark(0, 7), 2);
        due("6: it lets the other through", x.mark(1, 6), 0);
        DESK.due("6: THE TEXT", Desk.text(x, 2), "a c");
        due("23: VOID", x.count(7), 1);
        due("23: STETS don't ASK", x.count(4), 1);
        Desk.marks(x, "author put 0 = z; author stet 4;");
        due("6: a STET in the same text", x.mark(4, 7), 5);
        DESK.due("6: THE TEXT", Desk.text(x, 2), "a c");
    }

    private static void ranks() {
        MarkedProof x = desk("a b", "printer strike 0 0; reader strike 0 0; author strike 0 0;");
        due("11: the author's first", x.mark(2, 6), 0);
        due("11: was", x.rank(0, 9), 0);
        due("11: the reader's now", x.mark(1, 6), 0);
        due("11: by it", x.mark(0, 7) * 10 + x.mark(2, 7), 11);
        due("11: was", x.rank(2, 1), 2);
        due("11: of one RANK by number", x.mark(0, 6), 0);
        due("11: was", x.rank(0, 0), 9);
        due("11: told", x.count(10) * 100 + x.count(11) * 10 + x.count(12), 11);
        due("11: no such HAND", x.rank(3, 0) + x.rank(-1, 0) + x.rank(MAX, 0), 3 * MarkedProof.RANGE);
        due("11: no such RANK", x.rank(0, 10) + x.rank(0, -1) + x.rank(0, MIN), 3 * MarkedProof.RANGE);
        due("11: as it was", x.count(10), 0);
        Desk.first(x, "c");
        due("11: RANKS stay", x.count(12), 1);
    }

    private static int meet(String one, String other) {
        MarkedProof x = desk("a b c d e f g h", "author " + one + "; reader " + other + ";");
        due("12: both ways " + one + ", " + other, x.meet(1, 0), x.meet(0, 1));
        return x.meet(0, 1);
    }

    private static void meets() {
        due("12: a WORD in common", meet("strike 1 3", "change 3 4 = x"), 1);
        due("12: side by side", meet("strike 1 3", "change 4 4 = x"), 0);
        due("12: two PUTS", meet("put 3 = x", "put 3 = y"), 0);
        due("12: a GAP ahead of a row", meet("put 1 = x", "strike 1 3"), 0);
        due("12: a GAP inside", meet("put 2 = x", "strike 1 3"), 1);
        due("12: a GAP inside", meet("put 3 = x", "strike 1 3"), 1);
        due("12: a GAP behind", meet("put 4 = x", "strike 1 3"), 0);
        due("12: a MOVE's GAP inside", meet("move 6 7 2", "strike 1 3"), 1);
        due("12: a MOVE's GAP ahead", meet("move 6 7 1", "strike 1 3"), 0);
        due("12: two GAPS the same", meet("move 6 7 2", "put 2 = x"), 0);
        due("12: WITHIN a MOVE", meet("strike 4 4", "move 4 6 1"), 0);
        due("12: the whole of a MOVE", meet("strike 4 6", "move 4 6 1"), 0);
        due("12: more than a MOVE", meet("strike 3 6", "move 4 6 1"), 1);
        due("12: half in a MOVE", meet("change 6 7 = x", "move 4 6 1"), 1);
        due("12: a PUT in a MOVE", meet("put 5 = x", "move 4 6 1"), 0);
        due("12: two MOVES of one row", meet("move 4 6 1", "move 4 6 2"), 1);
        due("12: a MOVE out of a MOVE", meet("move 5 5 2", "move 4 6 1"), 1);
        due("12: a MOVE into a MOVE", meet("move 1 1 5", "move 4 6 0"), 1);
        due("12: a MOVE in a MOVE", meet("move 6 6 5", "move 4 6 0"), 0);
        due("12: a MOVE to a MOVE's first GAP", meet("move 6 6 4", "move 4 6 0"), 1);
        due("12: a PUT between the parts of a TURN", meet("put 3 = x", "turn 1 3 4"), 1);
        due("12: a PUT in the first part", meet("put 2 = x", "turn 1 3 4"), 0);
        due("12: a PUT in the second part", meet("put 4 = x", "turn 1 3 4"), 0);
        due("12: over both parts", meet("strike 2 3", "turn 1 3 4"), 1);
        due("12: a whole part", meet("strike 1 2", "turn 1 3 4"), 0);
        due("12: a TURN in a MOVE of its row", meet("turn 1 3 4", "move 1 4 7"), 0);
        due("12: a TURN in a TURN", meet("turn 1 2 3", "turn 1 4 5"), 0);
        due("12: a TURN across a TURN", meet("turn 1 2 4", "turn 1 4 5"), 1);
        due("12: a MOVE from part to part", meet("move 1 1 5", "turn 1 3 5"), 1);
        MarkedProof x = desk("a b", "author strike 0 0; author stet 0; reader ? strike 0 1;");
        due("12: whatever they are now", x.meet(0, 2), 1);
        due("12: the same", x.meet(0, 0), MarkedProof.RANGE);
        due("12: a STET", x.meet(0, 1) + x.meet(1, 0) + x.meet(1, 1), 3 * MarkedProof.RANGE);
        due("12: no such", x.meet(0, 3) + x.meet(3, 0) + x.meet(-1, 0) + x.meet(0, MIN), 4 * MarkedProof.RANGE);
    }

    private static int within(String one, String other) {
        return desk("a b c d e f g h", "author " + one + "; reader " + other + ";").within(0, 1);
    }

    private static void withins() {
        due("13: a whole row", within("strike 4 6", "move 4 6 1"), 1);
        due("13: but not the other way", within("move 4 6 1", "strike 4 6"), 0);
        due("13: a GAP at the row's first WORD", within("put 4 = x", "move 4 6 1"), 0);
        due("13: a GAP inside", within("put 5 = x", "move 4 6 1") + within("put 6 = x", "move 4 6 1"), 2);
        due("13: a GAP behind", within("put 7 = x", "move 4 6 1"), 0);
        due("13: WORDS before", within("strike 3 4", "move 4 6 1"), 0);
        due("13: WORDS behind", within("strike 6 7", "move 4 6 1"), 0);
        due("13: a MOVE's WORDS and GAP", within("move 4 4 6", "move 4 6 1"), 1);
        due("13: its GAP is behind", within("move 4 4 7", "move 4 6 1"), 0);
        due("13: a TURN in a MOVE", within("turn 4 5 6", "move 4 6 1"), 1);
        due("13: a MOVE in a TURN's second part", within("move 4 4 6", "turn 1 4 6"), 1);
        due("13: a MOVE of a TURN's row", within("move 4 6 1", "turn 4 5 6"), 0);
        due("13: a TURN's parts", within("change 1 3 = x", "turn 1 4 6") + within("change 4 6 = x", "turn 1 4 6"), 2);
        due("13: both parts", within("change 3 4 = x", "turn 1 4 6"), 0);
        due("13: the GAP between them", within("put 4 = x", "turn 1 4 6"), 0);
        due("13: none in a STRIKE", within("strike 2 2", "strike 1 3"), 0);
        due("13: none in a CHANGE", within("put 2 = x", "change 1 3 = x"), 0);
        MarkedProof x = desk("a b", "author strike 0 0; author stet 0; reader ? strike 0 1;");
        due("13: the same", x.within(2, 2), MarkedProof.RANGE);
        due("13: a STET", x.within(0, 1) + x.within(1, 0), 2 * MarkedProof.RANGE);
        due("13: no such", x.within(0, 3) + x.within(MAX, 0) + x.within(-1, 0), 3 * MarkedProof.RANGE);
    }

    private static void overruled() {
        MarkedProof x = desk("a b c d e f", "printer strike 0 1; reader strike 1 2; author strike 2 3; reader strike 3 4;"
            + "printer strike 0 5;");
        due("9: the author's is done", x.mark(2, 6), 0);
        due("9: the reader's fall", x.mark(1, 7) * 10 + x.mark(3, 7), 22);
        due("9: what they left is free", x.mark(0, 6), 0);
        due("9: by the first by number", x.mark(4, 7), 0);
        due("23: OVERRULED", x.count(6), 3);
        due("23: DONE", x.count(5), 2);
        due("23: ASK", x.count(4), 5);
        DESK.due("8: THE TEXT", Desk.text(x, 2), "e f");
    }

    private static void textOfOne() {
        dueText("a b c d", "", "a b c d");
        dueText("", "", "");
        dueText("a b c d", "author strike 0 3;", "");
        dueText("a b c d", "author strike 1 2;", "a d");
        dueText("a b c d", "author put 0 = x;", "x a b c d");
        dueText("a b c d", "author put 4 = x y;", "a b c d x y");
        dueText("a b c d", "author change 1 3 = x y;", "a x y");
        dueText("a b c d", "author turn 0 1 3;", "b c d a");
        dueText("a b c d", "author turn 1 3 3;", "a d b c");
        dueText("a b c d", "author move 2 3 0;", "c d a b");
        dueText("a b c d", "author move 0 0 2;", "b a c d");
        dueText("a b c d", "author move 0 1 4;", "c d a b");
    }

    private static void textOfGaps() {
        dueText("a b c", "printer put 1 = x; author put 1 = y; reader put 1 = z;", "a x y z b c");
        dueText("a b c", "printer put 0 = x; author move 2 2 0; reader put 0 = z;", "x c z a b");
        dueText("a b c", "author move 0 0 3; author move 1 1 3;", "c a b");
        dueText("a b c", "author move 1 1 3; author move 0 0 3;", "c b a");
        dueText("a b c", "author strike 1 1; author put 1 = x; author put 2 = y;", "a x y c");
        dueText("a b c d", "author put 1 = x; author turn 1 2 3; author put 4 = y;", "a x c d b y");
        dueText("a b c d", "author move 1 2 0; author put 1 = x; author put 3 = y;", "b c a x y d");
        dueText("a b c d", "author move 1 2 0; author change 2 2 = p q;", "b p q a d");
        dueText("a b c d", "author move 1 2 0; author put 2 = x; author strike 1 1;", "x c a d");
        dueText("a b c d", "author move 1 2 0; author strike 1 2;", "a d");
        dueText("", "author put 0 = x; author put 0 = y;", "x y");
    }

    private static void textOfNested() {
        dueText("a b c d e f", "author turn 0 3 5; author turn 0 1 2; author turn 3 4 5;", "e f d b c a");
        dueText("a b c d e f", "author turn 0 1 2; author turn 0 3 5;", "d e f b c a");
        dueText("a b c d e f", "author turn 0 2 5; author put 1 = x; author put 3 = y; author strike 4 4;", "c y d f a x b");
        dueText("a b c d e f", "author turn 2 3 4; author move 2 4 0;", "d e c a b f");
        dueText("a b c d e f", "author move 2 5 0; author move 2 2 5; author put 5 = x;", "d e c x f a b");
        dueText("a b c d e f", "author move 2 5 0; author put 4 = x; author move 5 5 4;", "c d x f e a b");
        dueText("a b c d e f", "author turn 0 4 5; author move 0 0 3; author put 3 = x;", "e f b c a x d");
        dueText("a b c d e f", "author turn 0 3 5; author move 3 5 0;", "d e f a b c");
        StringBuilder deep = new StringBuilder();
        StringBuilder first = new StringBuilder();
        for (int i = 0; i < 60; i++) {
            first.append((char) ('A' + i / 10)).append(i % 10).append(' ');
        }
        for (int i = 0; i < 40; i++) {
            deep.append("author turn ").append(i).append(' ').append(i + 1).append(" 59;\n");
        }
        StringBuilder due = new StringBuilder();
        for (int i = 40; i < 60; i++) {
            due.append((char) ('A' + i / 10)).append(i % 10).append(' ');
        }
        for (int i = 39; i >= 0; i--) {
            due.append((char) ('A' + i / 10)).append(i % 10).append(' ');
        }
        dueText(first.toString(), deep.toString(), due.toString().trim());
        StringBuilder full = new StringBuilder();
        for (int i = 0; i < 40; i++) {
            full.append("author put ").append(i).append(" = a b c d e f;\n");
        }
        due("23: the longest TEXT", desk(repeat("z ", 60), full.toString()).count(2), 300);
    }

    private static void holds() {
        MarkedProof x = desk("a b c d", "author strike 0 0; author put 4 = e; reader strike 3 3; reader strike 0 1;");
        Desk.second(x, "b c e");
        due("15: nothing missed", x.hold(), 0);
        Desk.second(x, "a b c e");
        due("15: one put too much is dearer than nothing", x.hold(), 2);
        due("16: so nothing is MISSED", x.held(0), 0);
        due("16: none", x.held(1), 0);
        due("16: none", x.held(10), -1);
        due("16: a change", x.held(2), 1);
        due("14: costs", x.costs(3, 3), 1);
        due("15: of equal cost", x.hold(), 3);
        due("16: the fewest", x.held(0), 0);
        due("14: costs", x.costs(9, 4), 1);
        due("15: a miss", x.hold(), 4);
        due("16: the set", x.held(0), 1);
        due("16: one", x.held(1), 1);
        due("16: which", x.held(10), 0);
        due("16: no second one", x.held(11), -1);
        due("16: DISTANCE", x.held(2), 0);
        due("17: no change", x.unasked(0, 0), -1);
        Desk.second(x, "a b c d e");
        due("15: two", x.hold(), 8);
        due("16: the set", x.held(0), 5);
        due("16: which", x.held(10) * 10 + x.held(11), 2);
        due("16: wrong ones", x.held(-1) + x.held(3) + x.held(9) + x.held(12) + x.held(MAX) + x.held(MIN), -6);
        due("14: wrong", x.costs(0, 3) + x.costs(3, 0) + x.costs(10, 1) + x.costs(1, 10) + x.costs(-1, 5), 5 * MarkedProof.RANGE);
        due("14: as they were", x.hold(), 8);
        MarkedProof y = desk("a a a", "author strike 0 0; author strike 1 1; author strike 2 2;");
        Desk.second(y, "a");
        y.costs(9, 1);
        due("15: any of three", y.hold(), 1);
        due("16: the least of them", y.held(0), 1);
        MarkedProof w = desk("a", "author put 0 = p q; author put 0 = r s; author put 0 = p q r x;");
        Desk.second(w, "p q r x a");
        w.costs(3, 3);
        due("15: two misses, or one and a change", w.hold(), 6);
        due("16: the fewest, though it is not the least", w.held(0), 4);
        due("16: with its change", w.held(2), 1);
        MarkedProof z = desk("a b c d", "author strike 3 3; author put 0 = x; author ? put 1 = y; author put 1 = z;");
        Desk.second(z, "x a b c");
        z.costs(9, 1);
        due("15: bits count the DONE ones", z.hold(), 1);
        due("16: the third DONE one", z.held(0), 4);
        due("16: is MARK 3", z.held(10), 3);
    }

    private static void heldIsKept() {
        MarkedProof x = desk("a b", repeat("author put 0 = x;", 8));
        Desk.second(x, "a c");
        x.costs(9, 1);
        due("15: eight are not too many", x.hold(), 17);
        due("16: all MISSED", x.held(0), 255);
        due("16: the last", x.held(17), 7);
        Desk.marks(x, "author put 2 = y;");
        due("15: nine are", x.hold(), MarkedProof.FULL);
        due("16: as it was", x.held(0) * 10 + x.held(1) + x.held(2), 2559);
        due("17: as it was", x.unasked(0, 1), 1);
        Desk.first(x, "q");
        Desk.second(x, "r");
        due("16: whatever is read", x.held(1), 8);
        due("16: whatever is read", x.held(17), 7);
        due("17: whatever is read", x.unasked(0, 2), 1);
        due("15: hold anew", x.hold(), 9);
        due("16: anew", x.held(1), 0);
    }

    private static void dueChanges(String first, String second, int... told) {
        MarkedProof x = desk(first, "");
        Desk.second(x, second);
        x.hold();
        due("16: changes from '" + first + "' to '" + second + "'", x.held(2), told.length / 3);
        for (int i = 0; i < told.length; i++) {
            due("17: from '" + first + "' to '" + second + "' " + i, x.unasked(i / 3, i % 3), told[i]);
        }
        due("17: no more", x.unasked(told.length / 3, 0), -1);
    }

    private static void unaskedPath() {
        dueChanges("a b c", "a b c");
        dueChanges("a b c", "a x c", 0, 1, 1);
        dueChanges("a b c", "a c", 1, 1, 1);
        dueChanges("a c", "a b c", 2, 1, 1);
        dueChanges("", "a b", 2, 0, 0, 2, 0, 1);
        dueChanges("a b", "", 1, 0, 0, 1, 1, 0);
        dueChanges("a b c", "c", 1, 0, 0, 1, 1, 0);
        dueChanges("a b", "b a", 0, 0, 0, 0, 1, 1);
        dueChanges("a b c", "x y", 0, 0, 0, 0, 1, 1, 1, 2, 2);
        dueChanges("a a", "a", 1, 1, 1);
        dueChanges("a b c d", "b c d e", 1, 0, 0, 2, 4, 3);
        MarkedProof x = desk("a b c", "author put 0 = z; author put 3 = y;");
        Desk.second(x, "a x c y");
        x.costs(3, 2);
        due("15: a miss and a change", x.hold(), 5);
        due("17: by THE TEXT without the MISSED one", x.unasked(0, 1), 1);
        due("17: wrong what", x.unasked(0, 3) + x.unasked(0, -1) + x.unasked(0, MAX), -3);
        due("17: wrong i", x.unasked(1, 0) + x.unasked(-1, 0) + x.unasked(MAX, 0) + x.unasked(MIN, 0), -4);
        Desk.first(x, repeat("a ", 60));
        Desk.second(x, repeat("b ", 150));
        x.costs(9, 1);
        due("15: the dearest", x.hold(), 1350);
        due("17: the last", x.unasked(149, 0) * 100000 + x.unasked(149, 1) * 1000 + x.unasked(149, 2), 260149);
    }

    private static void distances() {
        MarkedProof x = desk("a b c d", "author strike 0 0; author put 4 = e;");
        Desk.second(x, "b c e");
        due("18: first and second", x.distance(0, 1), 2);
        due("18: the other way", x.distance(1, 0), 2);
        due("18: first and THE TEXT", x.distance(0, 2), 2);
        due("18: second and THE TEXT", x.distance(1, 2) + x.distance(2, 1), 2);
        due("18: the same", x.distance(0, 0) + x.distance(1, 1) + x.distance(2, 2), 0);
        due("18: wrong", x.distance(3, 0) + x.distance(0, 3) + x.distance(-1, 0) + x.distance(0, MIN), 4 * MarkedProof.RANGE);
        Desk.first(x, "");
        due("18: of an empty one", x.distance(0, 1) + x.distance(1, 0), 6);
        Desk.second(x, "");
        due("18: of two empty ones", x.distance(0, 1), 0);
        Desk.first(x, repeat("a ", 60));
        Desk.second(x, repeat("b ", 150));
        due("18: the longest", x.distance(0, 1), 150);
    }

    private static void nextProof() {
        MarkedProof x = desk("a b", "author strike 0 0;");
        due("19: no SECOND PROOF", x.next(), MarkedProof.STATE);
        due("19: as it was", x.count(3), 1);
        Desk.second(x, repeat("c ", 61));
        due("19: more than 60", x.next(), MarkedProof.STATE);
        due("19: as it was", x.count(1) * 1000 + x.count(0) * 10 + x.count(3), 61021);
        Desk.second(x, repeat("c ", 60));
        x.rank(0, 7);
        x.price(0, 77);
        due("19: sixty", x.next(), 60);
        due("19: no MARKS, no SECOND", x.count(0) * 100 + x.count(1) * 10 + x.count(3), 6000);
        due("19: THE TEXT", x.count(2), 60);
        due("19: no MARK", x.mark(0, 0), -9);
        due("19: not twice", x.next(), MarkedProof.STATE);
        due("19: RANKS stay", x.count(10), 7);
        due("19: prices stay", x.price(0, 5), 77);
    }

    private static void errorsAndPrices() {
        MarkedProof x = desk("a b c d e f g h", "author strike 0 0; reader put 1 = x; printer change 1 1 = x; author turn 2 3 4;"
            + "reader move 6 7 5; author strike 0 1; author stet 5; author ? put 0 = y;");
        due("22: the author", x.pays(0), 5 + 10 + 8 + 12);
        due("22: the printer", x.pays(1), 10);
        due("20: an ERROR", x.error(3, true), 1);
        due("20: it was", x.error(3, true), 0);
        due("22: the printer's now", x.pays(1), 18);
        due("20: not one", x.error(3, false), 1);
        due("20: it wasn't", x.error(3, false), 0);
        due("20: of the printer's own", x.error(2, true), 1);
        due("22: paid once", x.pays(1), 10);
        due("20: of a VOID one", x.error(5, true), 1);
        due("20: of one that WAITS", x.error(7, true), 1);
        due("22: they cost nothing", x.pays(0) * 100 + x.pays(1), 3510);
        x.answer(7, true);
        due("22: an ERROR when it is done", x.pays(1), 20);
        due("20: a STET", x.error(6, true), MarkedProof.RANGE);
        due("20: no such", x.error(8, true) + x.error(-1, true) + x.error(MAX, false), 3 * MarkedProof.RANGE);
        due("21: was", x.price(0, 999), 5);
        due("21: was", x.price(1, 0), 10);
        due("21: was", x.price(2, 1), 10);
        due("21: was", x.price(3, 2), 8);
        due("21: was", x.price(4, 3), 12);
        due("21: was", x.price(0, 998), 999);
        due("21: wrong kinds", x.price(5, 1) + x.price(-1, 1) + x.price(MAX, 1), 3 * MarkedProof.RANGE);
        due("21: wrong pence", x.price(0, 1000) + x.price(0, -1) + x.price(0, MIN), 3 * MarkedProof.RANGE);
        due("22: the author", x.pays(0), 998 + 2 + 3);
        due("22: the printer", x.pays(1), 1);
        due("22: wrong", x.pays(2) + x.pays(-1) + x.pays(MIN), 3 * MarkedProof.RANGE);
    }

    private static void counts() {
        MarkedProof x = desk("a b c", "author strike 0 0; reader strike 0 1; author ? put 0 = x; author put 3 = y z;"
            + "author strike 2 2; author stet 4; reader ? put 0 = v;");
        Desk.second(x, "a b c d e");
        x.answer(6, false);
        x.feed(0, 0, 0, 0, 0);
        int[] due = {3, 5, 4, 7, 3, 2, 1, 2, 1, 20, 0, 1, 2, -1, -1};
        for (int what = 0; what < due.length; what++) {
            due("23: count(" + what + ")", x.count(what), due[what]);
        }
        due("23: wrong", x.count(-1) + x.count(MAX) + x.count(MIN), -3);
    }
}
