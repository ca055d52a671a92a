/** Terms I, sentence by sentence: each that names a boundary has a test of its own. */
public final class EdgesOfTextsTests {
    private static final Desk DESK = new Desk();
    private static final int NONE = MarkedProof.NONE;
    private static final String IN_WORDS = "abcdefghijklmnopqrstuvwxyzABCDEFGHIJKLMNOPQRSTUVWXYZ0123456789.,'!?;:-";
    private static final int SYNTAX = 1;
    private static final int RANGE = 2;
    private static final int ROOM = 3;

    public static void main(String[] args) {
        DESK.says("THE FIRST PROOF: at most 60 WORDS, numbered from 0", EdgesOfTextsTests::sixtyWords);
        DESK.says("a WORD is 1 .. 8 bytes", EdgesOfTextsTests::oneToEightBytes);
        DESK.says("bytes of a .. z, A .. Z, 0 .. 9, . , ' ! ? ; : and -", EdgesOfTextsTests::bytesOfProofs);
        DESK.says("a WORD of more than 8 bytes, or with a byte that is in none", EdgesOfTextsTests::bytesOfMarks);
        DESK.says("GAP g (0 .. as many as there are WORDS)", EdgesOfTextsTests::gaps);
        DESK.says("GAP g is ahead of WORD g, the last one behind all", EdgesOfTextsTests::gapsInTheText);
        DESK.says("THE TAPE has at most 2000 bytes", EdgesOfTextsTests::wholeTapes);
        DESK.says("each call that reads it empties it", EdgesOfTextsTests::emptied);
        DESK.says("A proof's text: WORDS with any blanks (32, 10) between", EdgesOfTextsTests::blanksOfProofs);
        DESK.says("MARKS, at most 40", EdgesOfTextsTests::fortyMarks);
        DESK.says("MARKS numbered from 0 as they come", EdgesOfTextsTests::numbered);
        DESK.says("0 author, 1 reader, 2 printer; RANKS 0, 1, 2 at first", EdgesOfTextsTests::hands);
        DESK.says("0 STRIKE a .. b", EdgesOfTextsTests::strikes);
        DESK.says("1 PUT g: WORDS (1 .. 6) come in at GAP g", EdgesOfTextsTests::puts);
        DESK.says("2 CHANGE a .. b: WORDS (1 .. 6) come for these", EdgesOfTextsTests::changes);
        DESK.says("3 TURN (a below b, b not above c)", EdgesOfTextsTests::turns);
        DESK.says("4 MOVE to GAP g (not above a, not a itself; or above b + 1)", EdgesOfTextsTests::moves);
        DESK.says("5 STET k: an earlier MARK k that is no STET", EdgesOfTextsTests::stets);
        DESK.says("lines, each ended by ;", EdgesOfTextsTests::endedLines);
        DESK.says("TOKENS with any blanks between", EdgesOfTextsTests::blanksOfMarks);
        DESK.says("N: digits, as many as there are, at most 3", EdgesOfTextsTests::digits);
        DESK.says("Behind = a WORD is bytes up to a blank, a ; or the text's end (so no ; is in one)", EdgesOfTextsTests::wordsOfMarks);
        DESK.says("else TOKENS are runs of small letters, digits, or one of ? = ;", EdgesOfTextsTests::tokens);
        DESK.says("A STET has no ?", EdgesOfTextsTests::stetHasNoQuery);
        DESK.says("PLACE (a TOKEN's first byte; the text's length at its end)", EdgesOfTextsTests::places);
        DESK.says("the first come to as TOKENS are read one by one", EdgesOfTextsTests::firstComeTo);
        DESK.says("of one TOKEN the least KIND", EdgesOfTextsTests::leastKind);
        DESK.says("1 SYNTAX: a TOKEN (or byte that is none) with which no text goes on", EdgesOfTextsTests::everyToken);
        DESK.says("2 RANGE: an N with which there is no such MARK (whatever may come behind)", EdgesOfTextsTests::everyNumber);
        DESK.says("3 ROOM: the 41st MARK (those that are there, too), at its line's first TOKEN", EdgesOfTextsTests::roomForMarks);
        DESK.says("3 ROOM: the 7th WORD of one", EdgesOfTextsTests::roomForWords);
        DESK.says("With a FAULT none of the text's MARKS comes", EdgesOfTextsTests::noneComes);
        DESK.close();
    }

    private static void due(String what, long got, long want) {
        DESK.due(what, got, want);
    }

    private static void dueRead(String what, MarkedProof x, int came, int want) {
        due(what + ": answer", came, want);
        due(what + ": KIND", x.fault(0), 0);
        due(what + ": PLACE", x.fault(1), NONE);
    }

    private static void dueFault(String what, MarkedProof x, int came, int kind, int place) {
        due(what + ": answer", came, NONE);
        due(what + ": KIND", x.fault(0), kind);
        due(what + ": PLACE", x.fault(1), place);
    }

    /** A text of MARKS on a new proof of so many WORDS; kind 0 when it has no FAULT. */
    private static void dueMarks(int words, String text, int kind, int place) {
        MarkedProof x = Desk.open(Desk.proofOf(words), "");
        int came = Desk.marks(x, text);
        String what = "'" + text + "' on " + words + " WORDS";
        due(what + ": KIND", x.fault(0), kind);
        due(what + ": PLACE", x.fault(1), place);
        due(what + ": some came", came == NONE ? 0 : 1, kind == 0 ? 1 : 0);
    }

    private static void sixtyWords() {
        MarkedProof x = new MarkedProof();
        dueRead("59", x, Desk.first(x, Desk.proofOf(59)), 59);
        dueRead("60", x, Desk.first(x, Desk.proofOf(60)), 60);
        due("WORD 0", x.word(0, 0), 'w' * 256 + '0');
        due("WORD 59", x.word(0, 59), ('w' * 256 + '5') * 256 + '9');
        due("WORD 60", x.word(0, 60), 0);
        due("WORD -1", x.word(0, -1), 0);
        dueFault("61", x, Desk.first(x, Desk.proofOf(61)), ROOM, Desk.proofOf(60).length() + 1);
        due("60 stay", x.count(0), 60);
    }

    private static void oneToEightBytes() {
        MarkedProof x = new MarkedProof();
        long word = 0;
        for (int n = 1; n <= 8; n++) {
            String told = "ABCDEFGHI".substring(0, n);
            word = word * 256 + told.charAt(n - 1);
            dueRead(n + " bytes in the first", x, Desk.first(x, told), 1);
            due(n + " bytes in the first", x.word(0, 0), word);
            dueRead(n + " bytes in the second", x, Desk.second(x, told), 1);
            due(n + " bytes in the second", x.word(1, 0), word);
            dueRead(n + " bytes in a PUT", x, Desk.marks(x, "author put 0 = " + told + ";"), 1);
            due(n + " bytes in a PUT", x.word(2, 0), word);
            dueRead(n + " bytes in a CHANGE", x, Desk.marks(x, "author change 0 0 = " + told + ";"), 1);
            due(n + " bytes in a CHANGE", x.word(2, 1), word);
        }
        dueFault("9 bytes in the first", x, Desk.first(x, "x ABCDEFGHI"), SYNTAX, 10);
        dueFault("9 bytes in the second", x, Desk.second(x, "x ABCDEFGHI"), SYNTAX, 10);
        dueFault("9 bytes in a PUT", x, Desk.marks(x, "author put 0 = ABCDEFGHI;"), SYNTAX, 15);
        dueFault("9 bytes in a CHANGE", x, Desk.marks(x, "author change 0 0 = ABCDEFGHI;"), SYNTAX, 20);
        dueRead("0 bytes in the first", x, Desk.first(x, ""), 0);
        dueRead("0 bytes in the second", x, Desk.second(x, ""), 0);
    }

    private static void bytesOfProofs() {
        for (int b = 0; b < 256; b++) {
            MarkedProof x = new MarkedProof();
            boolean isBlank = b == 32 || b == 10;
            boolean isOfWord = IN_WORDS.indexOf(b) >= 0;
            for (int which = 0; which < 2; which++) {
                Desk.tape(x, "q" + (char) b + "r");
                int came = which == 0 ? x.first() : x.second();
                due("byte " + b + " in proof " + which, came, isBlank ? 2 : isOfWord ? 1 : NONE);
                due("byte " + b + " in proof " + which + ": KIND", x.fault(0), isBlank || isOfWord ? 0 : SYNTAX);
                due("byte " + b + " in proof " + which + ": PLACE", x.fault(1), isBlank || isOfWord ? NONE : 1);
                due("byte " + b + " in proof " + which + " told", x.word(which, 0), isBlank ? 'q' : isOfWord ? ('q' * 256 + b) * 256 + 'r' : 0);
            }
        }
    }

    private static void bytesOfMarks() {
        for (int b = 0; b < 256; b++) {
            boolean isBlank = b == 32 || b == 10;
            boolean isOfWord = IN_WORDS.indexOf(b) >= 0 && b != ';';
            boolean isGood = isBlank || isOfWord;
            dueMarks(0, "author put 0 = ab q" + (char) b + "r;", isGood ? 0 : SYNTAX, isGood ? NONE : b == ';' ? 20 : 18);
            dueMarks(0, "author put 0 = " + (char) b + ";", isOfWord ? 0 : SYNTAX, isOfWord ? NONE : isBlank ? 16 : 15);
        }
        dueMarks(0, "author put 0 = abcdefg* x;", SYNTAX, 15);
        dueMarks(0, "author put 0 = x abcdefgh*;", SYNTAX, 17);
        dueMarks(0, "author put 0 = x abcdefghi y*;", SYNTAX, 17);
    }

    private static void gaps() {
        for (int words : new int[] {0, 1, 2, 9, 10, 59, 60}) {
            dueMarks(words, "author put 0 = x;", 0, NONE);
            dueMarks(words, "author put " + words + " = x;", 0, NONE);
            dueMarks(words, "author put " + (words + 1) + " = x;", RANGE, 11);
            dueMarks(words, "author put 999 = x;", RANGE, 11);
        }
        dueMarks(60, "author move 0 0 60;", 0, NONE);
        dueMarks(60, "author move 0 0 61;", RANGE, 16);
        dueMarks(60, "author move 59 59 0;", 0, NONE);
    }

    private static void gapsInTheText() {
        for (int g = 0; g <= 3; g++) {
            MarkedProof x = Desk.open("a b c", "author put " + g + " = X;");
            DESK.due("GAP " + g, Desk.text(x, 2), new String[] {"X a b c", "a X b c", "a b X c", "a b c X"}[g]);
        }
        MarkedProof y = Desk.open("a b c", "author move 0 0 3;");
        DESK.due("a MOVE to the last GAP", Desk.text(y, 2), "b c a");
        MarkedProof z = Desk.open("a b c", "author move 2 2 0;");
        DESK.due("a MOVE to GAP 0", Desk.text(z, 2), "c a b");
    }

    private static void wholeTapes() {
        MarkedProof x = new MarkedProof();
        String blanks = " ".repeat(1999);
        dueRead("the last byte of 2000", x, Desk.first(x, blanks + "z"), 1);
        due("the last byte of 2000", x.word(0, 0), 'z');
        dueFault("a FAULT at byte 1999", x, Desk.second(x, blanks + "*"), SYNTAX, 1999);
        dueFault("MARKS end at 2000", x, Desk.marks(x, blanks.substring(6) + "author "), SYNTAX, 2000);
        String line = "author put 0 = x;";
        dueRead("a line that ends at 2000", x, Desk.marks(x, blanks.substring(line.length() - 1) + line), 1);
    }

    private static void emptied() {
        String[] texts = {"a b", "*", "", "author put 0 = x;", "author"};
        for (String text : texts) {
            for (int which = 0; which < 3; which++) {
                MarkedProof x = new MarkedProof();
                Desk.tape(x, text);
                due("bytes of '" + text + "'", x.count(9), text.length());
                long came = which == 0 ? x.first() : which == 1 ? x.second() : x.marks();
                due("bytes behind '" + text + "' " + which + " " + came, x.count(9), 0);
                due("none is left of '" + text + "'", x.end(1), NONE);
                due("it is read once: '" + text + "'", which == 0 ? x.first() : which == 1 ? x.second() : x.marks(), 0);
            }
        }
        MarkedProof y = Desk.open("a b", "author ? strike 0 0;");
        Desk.second(y, "c");
        Desk.tape(y, "d e f");
        y.answer(0, true);
        y.rank(0, 1);
        y.costs(1, 1);
        y.hold();
        y.error(0, true);
        y.price(0, 1);
        y.next();
        due("what doesn't read it leaves it", y.count(9), 5);
        due("so it is read then", y.first(), 3);
    }

    private static void blanksOfProofs() {
        String[] texts = {"a b", "a\nb", " a b", "\na b", "a b ", "a b\n", "a  b", "a\n\nb", " \n a \n b \n "};
        for (String text : texts) {
            MarkedProof x = new MarkedProof();
            dueRead("first", x, Desk.first(x, text), 2);
            dueRead("second", x, Desk.second(x, text), 2);
            DESK.due("first", Desk.text(x, 0), "a b");
            DESK.due("second", Desk.text(x, 1), "a b");
        }
        for (int b : new int[] {0, 9, 11, 12, 13, 31, 34, 127, 128, 160, 255}) {
            MarkedProof x = new MarkedProof();
            dueFault("no blank: " + b, x, Desk.first(x, "a" + (char) b + "b"), SYNTAX, 1);
            dueFault("no blank: " + b, x, Desk.second(x, "a " + (char) b + " b"), SYNTAX, 2);
        }
        for (String text : new String[] {"", " ", "\n", " \n \n"}) {
            MarkedProof x = Desk.open("a b", "author strike 0 0;");
            Desk.second(x, "c");
            dueRead("no WORD", x, Desk.second(x, text), 0);
            due("the second is empty", x.count(1), 0);
            dueRead("no WORD", x, Desk.first(x, text), 0);
            due("the first is empty", x.count(0), 0);
            due("no MARKS", x.count(3), 0);
        }
    }

    private static String lines(int n) {
        return "author put 0 = x;".repeat(n);
    }

    private static void fortyMarks() {
        MarkedProof x = new MarkedProof();
        dueRead("39", x, Desk.marks(x, lines(39)), 39);
        dueRead("the 40th", x, Desk.marks(x, lines(1)), 1);
        due("40", x.count(3), 40);
        due("MARK 39", x.mark(39, 0), 1);
        due("no MARK 40", x.mark(40, 0), -9);
        dueFault("the 41st", x, Desk.marks(x, lines(1)), ROOM, 0);
        due("40 stay", x.count(3), 40);
        dueRead("40 in one text", x, Desk.first(x, "a"), 1);
        dueRead("40 in one text", x, Desk.marks(x, lines(40)), 40);
        due("all are DONE", x.count(5), 40);
        due("all come in", x.count(2), 41);
        Desk.first(x, "a");
        dueFault("41 in one text", x, Desk.marks(x, lines(41)), ROOM, 40 * 17);
        due("none came", x.count(3), 0);
    }

    private static void numbered() {
        MarkedProof x = Desk.open("a b c", "author put 1 = x; author put 2 = x;");
        due("two more", Desk.marks(x, "author put 3 = x; author put 0 = x;"), 2);
        int[] told = {1, 2, 3, 0};
        for (int k = 0; k < 4; k++) {
            due("MARK " + k, x.mark(k, 2), told[k]);
        }
        due("no MARK 4", x.mark(4, 2), -9);
        due("no MARK -1", x.mark(-1, 2), -9);
        Desk.marks(x, "author put 2 = x; author put 9 = x;");
        Desk.marks(x, "author put 1 = x;");
        due("a text with a FAULT takes no number", x.mark(4, 2), 1);
        Desk.first(x, "a b c");
        Desk.marks(x, "author put 2 = x;");
        due("from 0 anew", x.mark(0, 2), 2);
        due("one alone", x.mark(1, 2), -9);
    }

    private static void hands() {
        MarkedProof x = Desk.open("a", "author strike 0 0; reader strike 0 0; printer strike 0 0;");
        for (int h = 0; h < 3; h++) {
            due("HAND " + h, x.mark(h, 1), h);
            due("RANK of " + h, x.count(10 + h), h);
        }
        MarkedProof y = Desk.open("a", "printer strike 0 0; reader strike 0 0; author strike 0 0;");
        due("author first", y.mark(2, 6), 0);
        Desk.marks(y, "author stet 2;");
        due("then the reader", y.mark(1, 6), 0);
        due("not the printer", y.mark(0, 6), 1);
        Desk.marks(y, "author stet 1;");
        due("then the printer", y.mark(0, 6), 0);
    }

    private static void strikes() {
        dueMarks(3, "author strike 0 0;", 0, NONE);
        dueMarks(3, "author strike 2 2;", 0, NONE);
        dueMarks(3, "author strike 0 2;", 0, NONE);
        dueMarks(3, "author strike 1 0;", RANGE, 16);
        dueMarks(3, "author strike 0 3;", RANGE, 16);
        dueMarks(3, "author strike 3 3;", RANGE, 14);
        dueMarks(0, "author strike 0 0;", RANGE, 14);
        dueMarks(60, "author strike 59 59;", 0, NONE);
        dueMarks(60, "author strike 60 60;", RANGE, 14);
        DESK.due("one WORD", Desk.text(Desk.open("a b c", "author strike 1 1;"), 2), "a c");
        due("every WORD", Desk.open("a b c", "author strike 0 2;").count(2), 0);
    }

    private static void dueWords(String head) {
        for (int words = 1; words <= 6; words++) {
            MarkedProof x = Desk.open("z", head + " = " + Desk.proofOf(words) + ";");
            due(head + " with " + words, x.mark(0, 5), words);
            for (int i = 0; i < 7; i++) {
                due(head + " WORD " + i + " of " + words, x.mark(0, 10 + i), i < words ? 'w' * 256 + '0' + i : -9);
            }
        }
        dueMarks(1, head + " = ;", SYNTAX, head.length() + 3);
        dueMarks(1, head + " = a b c d e f g;", ROOM, head.length() + 15);
    }

    private static void puts() {
        dueWords("author put 0");
        DESK.due("six come in", Desk.text(Desk.open("a b", "author put 1 = p q r s t u;"), 2), "a p q r s t u b");
        due("as many as can", Desk.open(Desk.proofOf(60), "author put 0=a b c d e f;".repeat(40)).count(2), 300);
    }

    private static void changes() {
        dueWords("author change 0 0");
        dueMarks(3, "author change 2 2 = x;", 0, NONE);
        dueMarks(3, "author change 2 1 = x;", RANGE, 16);
        dueMarks(3, "author change 2 3 = x;", RANGE, 16);
        dueMarks(3, "author change 3 3 = x;", RANGE, 14);
        DESK.due("six for one", Desk.text(Desk.open("a b", "author change 1 1 = p q r s t u;"), 2), "a p q r s t u");
        DESK.due("one for all", Desk.text(Desk.open("a b c", "author change 0 2 = p;"), 2), "p");
    }

    private static void turns() {
        dueMarks(4, "author turn 1 1 2;", RANGE, 14);
        dueMarks(4, "author turn 1 0 2;", RANGE, 14);
        dueMarks(4, "author turn 1 2 1;", RANGE, 16);
        dueMarks(4, "author turn 1 2 2;", 0, NONE);
        dueMarks(4, "author turn 1 2 3;", 0, NONE);
        dueMarks(4, "author turn 1 2 4;", RANGE, 16);
        dueMarks(4, "author turn 2 3 3;", 0, NONE);
        dueMarks(4, "author turn 3 4 4;", RANGE, 12);
        dueMarks(1, "author turn 0 1 1;", RANGE, 12);
        dueMarks(2, "author turn 0 1 1;", 0, NONE);
        DESK.due("of one WORD each", Desk.text(Desk.open("a b c", "author turn 1 2 2;"), 2), "a c b");
        DESK.due("of all", Desk.text(Desk.open("a b c", "author turn 0 1 2;"), 2), "b c a");
        DESK.due("of all", Desk.text(Desk.open("a b c", "author turn 0 2 2;"), 2), "c a b");
    }

    private static void moves() {
        int[] kinds = {0, 0, RANGE, RANGE, RANGE, 0, 0, RANGE};
        for (int g = 0; g < kinds.length; g++) {
            dueMarks(6, "author move 2 3 " + g + ";", kinds[g], kinds[g] == 0 ? NONE : 16);
        }
        dueMarks(6, "author move 0 0 0;", RANGE, 16);
        dueMarks(6, "author move 0 0 1;", RANGE, 16);
        dueMarks(6, "author move 0 0 2;", 0, NONE);
        dueMarks(6, "author move 5 5 4;", 0, NONE);
        dueMarks(6, "author move 5 5 5;", RANGE, 16);
        dueMarks(6, "author move 5 5 6;", RANGE, 16);
        dueMarks(6, "author move 3 2 0;", RANGE, 14);
        dueMarks(6, "author move 1 6 0;", RANGE, 14);
        dueMarks(6, "author move 0 5 6;", RANGE, 14);
        dueMarks(6, "author move 6 6 0;", RANGE, 12);
        dueMarks(1, "author move 0 0 1;", RANGE, 12);
        DESK.due("next but one", Desk.text(Desk.open("a b c", "author move 0 0 2;"), 2), "b a c");
        DESK.due("one ahead", Desk.text(Desk.open("a b c", "author move 2 2 1;"), 2), "a c b");
    }

    private static void stets() {
        dueMarks(2, "author stet 0;", RANGE, 12);
        dueMarks(2, "author put 0 = x; author stet 1;", RANGE, 30);
        dueMarks(2, "author stet 1; author put 0 = x;", RANGE, 12);
        dueMarks(2, "author put 0 = x; author stet 0; author stet 1;", RANGE, 45);
        dueMarks(2, "author put 0 = x; author stet 0; author stet 0;", 0, NONE);
        MarkedProof x = Desk.open("a b", "author put 0 = x; author strike 0 0; author stet 1;");
        due("one of the same text", x.mark(1, 6) * 10 + x.mark(1, 7), 22);
        Desk.marks(x, "printer stet 0;");
        due("one of an older text", x.mark(0, 6) * 10 + x.mark(0, 7), 23);
        dueFault("a STET", x, Desk.marks(x, "author stet 2;"), RANGE, 12);
        dueFault("a STET of an older text", x, Desk.marks(x, "author stet 3;"), RANGE, 12);
        dueFault("itself", x, Desk.marks(x, "author stet 4;"), RANGE, 12);
        dueRead("a VOID one", x, Desk.marks(x, "author stet 1;"), 1);
        due("still by the first", x.mark(1, 7), 2);
        MarkedProof y = Desk.open("a", lines(39));
        dueRead("the last but one of 40", y, Desk.marks(y, "author stet 38;"), 1);
        due("by the 40th", y.mark(38, 7), 39);
    }

    private static void endedLines() {
        dueMarks(2, "author strike 0 0", SYNTAX, 17);
        dueMarks(2, "author strike 0 0 author strike 1 1;", SYNTAX, 18);
        dueMarks(2, "author put 0 = x", SYNTAX, 16);
        dueMarks(2, "author strike 0 0;author strike 1 1", SYNTAX, 35);
        dueMarks(2, "author strike 0 0;;", SYNTAX, 18);
        dueMarks(2, ";author strike 0 0;", SYNTAX, 0);
        dueMarks(2, "author strike 0 0;", 0, NONE);
        dueMarks(2, "author strike 0 0;author strike 1 1;", 0, NONE);
        dueMarks(2, "", 0, NONE);
    }

    private static void blanksOfMarks() {
        dueMarks(3, "author?strike0 1;reader put3=x;printer change0 0=y;author turn0 1 1;author move0 0 2;author stet0;", 0, NONE);
        String[] tokens = {"author", "?", "change", "0", "1", "=", "x", "y", ";", "reader", "stet", "0", ";"};
        for (String blank : new String[] {" ", "\n", "  ", " \n", "\n\n "}) {
            String text = blank + String.join(blank, tokens) + blank;
            MarkedProof x = Desk.open("a b", text);
            due("MARKS of " + text, x.count(3), 2);
            due("WORDS of " + text, x.mark(0, 5), 2);
        }
        dueMarks(3, "authorstrike 0 0;", SYNTAX, 0);
        dueMarks(3, "author strike 00;", SYNTAX, 16);
        dueMarks(3, "author\tstrike 0 0;", SYNTAX, 6);
        dueMarks(3, "author strike\r0 0;", SYNTAX, 13);
        dueMarks(3, "author strike 0 0;\r", SYNTAX, 18);
        dueMarks(3, " \n ", 0, NONE);
    }

    private static void digits() {
        for (String n : new String[] {"7", "07", "007"}) {
            MarkedProof x = Desk.open(Desk.proofOf(8), "author strike " + n + " " + n + ";");
            due(n + " as told", x.mark(0, 2), 7);
            due(n + " as told", x.mark(0, 3), 7);
        }
        dueMarks(8, "author strike 0007 7;", SYNTAX, 14);
        dueMarks(8, "author strike 7 0007;", SYNTAX, 16);
        dueMarks(8, "author strike 0000 0;", SYNTAX, 14);
        dueMarks(8, "author turn 0 1 0002;", SYNTAX, 16);
        dueMarks(8, "author move 0 0 0002;", SYNTAX, 16);
        dueMarks(8, "author put 0000 = x;", SYNTAX, 11);
        dueMarks(8, "author put 0 = x; author stet 0000;", SYNTAX, 30);
        dueMarks(8, "author strike 99999999999999999999 0;", SYNTAX, 14);
        dueMarks(8, "author strike 4294967296 0;", SYNTAX, 14);
        dueMarks(8, "author strike 999 0;", RANGE, 14);
        dueMarks(60, "author put 060 = x;", 0, NONE);
        dueMarks(60, "author put 100 = x;", RANGE, 11);
        dueMarks(8, "author strike 1 23;", RANGE, 16);
        dueMarks(60, "author strike 12 34;", 0, NONE);
    }

    private static void wordsOfMarks() {
        MarkedProof x = Desk.open("a", "author put 0 =p\nq  r ;author put 1=?=;");
        due("= is in no WORD", x.fault(0) * 100 + x.fault(1), 135);
        x = Desk.open("a", "author put 0 =p\nq  r ;author put 1=? 0 put . A;");
        due("three up to blanks", x.mark(0, 5), 3);
        due("what are TOKENS else", x.mark(1, 5), 5);
        DESK.due("all", Desk.text(x, 2), "p q r a ? 0 put . A");
        dueMarks(1, "author put 0 = a;b;", SYNTAX, 17);
        dueMarks(1, "author put 0 = a", SYNTAX, 16);
        dueMarks(1, "author put 0 = abcdefgh", SYNTAX, 23);
        dueMarks(1, "author put 0 = abcdefghi", SYNTAX, 15);
        dueMarks(1, "author put 0 = a*", SYNTAX, 15);
        dueMarks(1, "author put 0 = a ", SYNTAX, 17);
        dueMarks(1, "author put 0 =", SYNTAX, 14);
        dueMarks(1, "author put 0 = \n", SYNTAX, 16);
        dueMarks(1, "author put 0 =;", SYNTAX, 14);
        dueMarks(1, "author put 0 = x=y;", SYNTAX, 15);
        dueMarks(1, "author put 0 = abcdefgh;", 0, NONE);
        dueMarks(1, "author put 0 = x;author put 0 = y;", 0, NONE);
    }

    private static void tokens() {
        dueMarks(2, "author??strike 0 0;", SYNTAX, 7);
        dueMarks(2, "author strike 0 0;;;", SYNTAX, 18);
        dueMarks(2, "author put 0 x = y;", SYNTAX, 13);
        dueMarks(2, "author put 0x = y;", SYNTAX, 12);
        dueMarks(2, "author put x0 = y;", SYNTAX, 11);
        dueMarks(2, "author putt 0 = y;", SYNTAX, 7);
        dueMarks(2, "author pu 0 = y;", SYNTAX, 7);
        dueMarks(2, "Author put 0 = y;", SYNTAX, 0);
        dueMarks(2, "authoR put 0 = y;", SYNTAX, 0);
        dueMarks(2, "author put -0 = y;", SYNTAX, 11);
        dueMarks(2, "author put 0. = y;", SYNTAX, 12);
        for (int b = 0; b < 256; b++) {
            boolean isBlank = b == 32 || b == 10;
            boolean isSmall = b >= 'a' && b <= 'z';
            boolean isDigit = b >= '0' && b <= '9';
            dueMarks(2, (char) b + "author strike 0 1;", isBlank ? 0 : SYNTAX, isBlank ? NONE : 0);
            dueMarks(2, "author" + (char) b + "strike 0 1;", isBlank || b == '?' ? 0 : SYNTAX, isBlank || b == '?' ? NONE : isSmall ? 0 : 6);
            dueMarks(60, "author strike 0" + (char) b + "1;", isBlank ? 0 : b > '5' && isDigit ? RANGE : SYNTAX,
                isBlank ? NONE : b > '5' && isDigit ? 14 : isDigit ? 17 : 15);
            dueMarks(2, "author strike 0 1" + (char) b, b == ';' ? 0 : isDigit ? RANGE : SYNTAX,
                b == ';' ? NONE : isDigit ? 16 : isBlank ? 18 : 17);
        }
    }

    private static void stetHasNoQuery() {
        dueMarks(2, "author put 0 = x; author stet 0;", 0, NONE);
        dueMarks(2, "author put 0 = x; author ? stet 0;", SYNTAX, 27);
        dueMarks(2, "author put 0 = x; author ?stet 0;", SYNTAX, 26);
        dueMarks(2, "author put 0 = x; author stet ? 0;", SYNTAX, 30);
        dueMarks(2, "author put 0 = x; author ? stet 9;", SYNTAX, 27);
        for (String kind : new String[] {"strike 0 0", "put 0 = x", "change 0 0 = x", "turn 0 1 1", "move 0 0 2"}) {
            MarkedProof x = Desk.open("a b", "author ? " + kind + ";");
            due(kind + " WAITS", x.mark(0, 6), 3);
        }
    }

    private static void places() {
        dueMarks(2, "author strike 0 0; authors", SYNTAX, 19);
        dueMarks(2, "author  strikes", SYNTAX, 8);
        dueMarks(2, "author strike 0 0;  reader", SYNTAX, 26);
        dueMarks(2, "author strike 0 0;  reader \n ", SYNTAX, 29);
        dueMarks(2, "author", SYNTAX, 6);
        dueMarks(2, "author strike 0 ", SYNTAX, 16);
        dueMarks(2, "author put 0 = x \n", SYNTAX, 18);
        dueMarks(2, "author strike 0   002;", RANGE, 18);
        MarkedProof x = Desk.open("a b", "");
        Desk.tape(x, "author strike 0 0; author strike 1 1;");
        x.end(30);
        dueFault("a tape that was cut", x, x.marks(), SYNTAX, 26);
        Desk.tape(x, "author strike 0 0; author strike 1 1;");
        x.end(32);
        dueFault("a tape that was cut", x, x.marks(), SYNTAX, 32);
    }

    private static void firstComeTo() {
        dueMarks(2, "author strike 2 x", RANGE, 14);
        dueMarks(2, "author strike x 2", SYNTAX, 14);
        dueMarks(2, "author put 9 = abcdefghi;", RANGE, 11);
        dueMarks(2, "author put 0 = abcdefghi; author put 9 = x;", SYNTAX, 15);
        dueMarks(2, "author put 0 = a b c d e f g h*;", ROOM, 27);
        dueMarks(2, "author put 0 = a b c d e f* g;", SYNTAX, 25);
        dueMarks(2, "author strike 1 0; bob", RANGE, 16);
        dueMarks(2, "author strike 1 1 bob", SYNTAX, 18);
        dueMarks(2, "author turn 1 x", RANGE, 12);
        MarkedProof x = new MarkedProof();
        dueFault("a bad byte, then a ninth", x, Desk.first(x, "a*b abcdefghi"), SYNTAX, 1);
        dueFault("a ninth, then a bad byte", x, Desk.first(x, "abcdefghij*"), SYNTAX, 8);
        dueFault("a bad byte, then the 61st", x, Desk.first(x, "*" + " a".repeat(61)), SYNTAX, 0);
        dueFault("the 61st, then a bad byte", x, Desk.first(x, "a ".repeat(61) + "*"), ROOM, 120);
    }

    private static void leastKind() {
        dueMarks(2, "author strike 1234 0;", SYNTAX, 14);
        dueMarks(2, "author strike 1 0000;", SYNTAX, 16);
        dueMarks(2, "author put 0 = a b c d e f g*;", SYNTAX, 27);
        dueMarks(2, "author put 0 = a b c d e f abcdefghi;", SYNTAX, 27);
        MarkedProof x = Desk.open("a", lines(40));
        dueFault("no HAND as the 41st", x, Desk.marks(x, "bob strike 0 0;"), SYNTAX, 0);
        dueFault("no TOKEN as the 41st", x, Desk.marks(x, "\n*"), SYNTAX, 1);
        dueFault("a HAND as the 41st", x, Desk.marks(x, "\nreader*"), ROOM, 1);
        dueRead("nothing as the 41st", x, Desk.marks(x, "\n"), 0);
        dueFault("the 61st is bad at its first byte", x, Desk.first(x, "a ".repeat(60) + "*"), SYNTAX, 120);
    }

    /** Each state of the grammar as a text that leads there, with the TOKENS (N for a number) that may come next. */
    private static final String[][] STATES = {
        {"", "author reader printer"}, {"author stet 0; ", "author reader printer"},
        {"author ", "? strike put change turn move stet"}, {"reader ", "? strike put change turn move stet"},
        {"printer ", "? strike put change turn move stet"}, {"author ? ", "strike put change turn move"},
        {"author strike ", "0 1"}, {"author strike 1 ", "1"}, {"author strike 1 1 ", ";"},
        {"author put ", "0 1"}, {"author put 1 ", "="},
        {"author change ", "0 1"}, {"author change 1 ", "1"}, {"author change 1 1 ", "="},
        {"author turn ", "0 1"}, {"author turn 0 ", "1"}, {"author turn 0 1 ", "1"}, {"author turn 0 1 1 ", ";"},
        {"author move ", "0 1"}, {"author move 1 ", "1"}, {"author move 1 1 ", "0"}, {"author move 1 1 0 ", ";"},
        {"author stet ", "0"}, {"author stet 0 ", ";"}};
    private static final String[] TOKENS = {"author", "reader", "printer", "?", "strike", "put", "change", "turn", "move", "stet", "0", "1", "=",
        ";", "x", "authors", "A", ".", "-", "*", "\t", "0000"};

    private static void everyToken() {
        for (String[] state : STATES) {
            String text = state[0];
            boolean isBegun = !text.isEmpty() && !text.endsWith("; ");
            dueToken(text, "", isBegun ? SYNTAX : 0, isBegun ? text.length() : NONE);
            for (String token : TOKENS) {
                boolean goesOn = (" " + state[1] + " ").contains(" " + token + " ");
                if (goesOn) {
                    boolean isWhole = token.equals(";");
                    dueToken(text, token, isWhole ? 0 : SYNTAX, isWhole ? NONE : text.length() + token.length());
                } else if (token.length() != 1 || !Character.isDigit(token.charAt(0)) || !state[1].matches("[01 ]+")) {
                    dueToken(text, token, SYNTAX, text.length());
                }
            }
        }
        String put = "author put 0 = ";
        for (String token : TOKENS) {
            boolean isWord = !"=;*\t".contains(token);
            dueToken(put, token, SYNTAX, isWord ? put.length() + token.length() : put.length());
            dueToken(put + "x ", token, token.equals(";") ? 0 : SYNTAX, token.equals(";") ? NONE : put.length() + 2 + (isWord ? token.length() : 0));
        }
    }

    private static void dueToken(String text, String token, int kind, int place) {
        MarkedProof x = Desk.open("a b c", "author put 0 = x;");
        Desk.marks(x, text + token);
        due("'" + text + "' and '" + token + "': KIND", x.fault(0), kind);
        due("'" + text + "' and '" + token + "': PLACE", x.fault(1), place);
    }

    private static boolean isMark(String kind, int words, int... n) {
        switch (kind) {
            case "put": return n[0] <= words;
            case "strike": case "change": return n[0] <= n[1] && n[1] <= words - 1;
            case "turn": return n[0] < n[1] && n[1] <= n[2] && n[2] <= words - 1;
            default: return n[0] <= n[1] && n[1] <= words - 1 && n[2] <= words && (n[2] < n[0] || n[2] > n[1] + 1);
        }
    }

    /** Whether any numbers behind those told make it a MARK. */
    private static boolean mayGoOn(String kind, int words, int many, int... told) {
        if (told.length == many) {
            return isMark(kind, words, told);
        }
        for (int more = 0; more <= words + 1; more++) {
            int[] longer = java.util.Arrays.copyOf(told, told.length + 1);
            longer[told.length] = more;
            if (mayGoOn(kind, words, many, longer)) {
                return true;
            }
        }
        return false;
    }

    private static void everyNumber() {
        String[] kinds = {"put", "strike", "change", "turn", "move"};
        int[] many = {1, 2, 2, 3, 3};
        for (int words = 0; words <= 5; words++) {
            for (int k = 0; k < kinds.length; k++) {
                dueNumbers(kinds[k], words, many[k]);
            }
        }
    }

    private static void dueNumbers(String kind, int words, int many, int... told) {
        StringBuilder text = new StringBuilder("author " + kind);
        for (int n : told) {
            text.append(' ').append(n);
        }
        if (told.length > 0) {
            int place = text.length() - Integer.toString(told[told.length - 1]).length();
            boolean isGood = mayGoOn(kind, words, many, told);
            dueMarks(words, text.toString(), isGood ? SYNTAX : RANGE, isGood ? text.length() : place);
            if (!isGood) {
                dueMarks(words, text + " x;", RANGE, place);
                return;
            }
        }
        for (int n = 0; told.length < many && n <= words + 2; n++) {
            int[] longer = java.util.Arrays.copyOf(told, told.length + 1);
            longer[told.length] = n;
            dueNumbers(kind, words, many, longer);
        }
    }

    private static void roomForMarks() {
        MarkedProof x = Desk.open("a", lines(37) + "author stet 0;");
        dueFault("38 and 3", x, Desk.marks(x, lines(2) + " reader strike 9 9;"), ROOM, 35);
        due("38 stay", x.count(3), 38);
        dueRead("38 and 2", x, Desk.marks(x, lines(2)), 2);
        dueFault("40 and a STET", x, Desk.marks(x, "author stet 0;"), ROOM, 0);
        dueFault("40 and a HAND alone", x, Desk.marks(x, "  printer"), ROOM, 2);
        dueFault("40 and a QUERY", x, Desk.marks(x, "reader ? put 0 = x;"), ROOM, 0);
        dueRead("40 and none", x, Desk.marks(x, ""), 0);
        MarkedProof y = Desk.open("a", lines(20) + "author ? put 0 = x;".repeat(10));
        for (int k = 20; k < 30; k++) {
            y.answer(k, false);
        }
        Desk.marks(y, "author stet 0;".repeat(10));
        dueFault("VOID ones and STETS are there, too", y, Desk.marks(y, lines(1)), ROOM, 0);
        Desk.second(y, "b");
        y.next();
        dueRead("none are there with a new proof", y, Desk.marks(y, lines(40)), 40);
    }

    private static void roomForWords() {
        dueMarks(2, "author put 0 = a b c d e f;", 0, NONE);
        dueMarks(2, "author put 0 = a b c d e f g;", ROOM, 27);
        dueMarks(2, "author put 0 = a b c d e f  g", ROOM, 28);
        dueMarks(2, "author change 0 1 = a b c d e f;", 0, NONE);
        dueMarks(2, "author change 0 1 = a b c d e f\ng;", ROOM, 32);
        dueMarks(2, "author put 0 = a b c d e f;author put 0 = a b c d e f;", 0, NONE);
        dueMarks(2, "author put 0 = a b c d e f", SYNTAX, 26);
    }

    private static void noneComes() {
        String good = "author strike 0 0; author stet 0; author put 2 = y;";
        String spoilt = "reader ? turn 0 1 1; author ? put 0 = p q r; author stet 2;";
        for (String bad : new String[] {"author", "bob", "author strike 2 2;", "author put 0 = a b c d e f g;", "*"}) {
            MarkedProof x = Desk.open("a b", "author put 0 = x;");
            Desk.second(x, "q");
            x.hold();
            String before = Desk.all(x);
            due("answer with " + bad, Desk.marks(x, spoilt + bad), NONE);
            String behind = Desk.all(x);
            DESK.due("all but the FAULT", behind.substring(0, behind.lastIndexOf('/')), before.substring(0, before.lastIndexOf('/')));
            due("they come without it", Desk.marks(x, good), 3);
            due("numbered on", x.mark(3, 2), 2);
            due("the STET is done", x.mark(0, 6) * 10 + x.mark(0, 7), 22);
            due("none WAITS", x.count(8), 0);
            due("none but one is VOID", x.count(7), 1);
            due("numbers", x.mark(1, 4) + x.mark(2, 3) + x.mark(3, 3), -3);
            due("HANDS", x.mark(1, 1), 0);
            due("WORDS", x.mark(2, 5) * 10 + x.mark(3, 5), 1);
        }
        MarkedProof y = Desk.open("a b", lines(39));
        due("two more", Desk.marks(y, "author stet 0;author put 0 = z;"), NONE);
        due("none came", y.count(3) * 10 + y.count(7), 390);
    }
}
