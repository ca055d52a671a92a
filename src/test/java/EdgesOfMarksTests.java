/** Terms II, sentence by sentence: each that names a boundary has a test of its own. */
public final class EdgesOfMarksTests {
    private static final Desk DESK = new Desk();
    private static final int NONE = MarkedProof.NONE;
    private static final String EIGHT = "a b c d e f g h";

    public static void main(String[] args) {
        DESK.says("A MARK is VOID by a STET", EdgesOfMarksTests::voidByStet);
        DESK.says("a STET itself is never done", EdgesOfMarksTests::stetIsNeverDone);
        DESK.says("A QUERY WAITS till it is answered", EdgesOfMarksTests::queryWaits);
        DESK.says("yes: it is as if told without ?", EdgesOfMarksTests::answeredYes);
        DESK.says("no: VOID", EdgesOfMarksTests::answeredNo);
        DESK.says("MARKS that are neither VOID, STET nor WAIT ASK", EdgesOfMarksTests::asking);
        DESK.says("WITHIN: all WORDS that a MARK tells are inside a MOVE's a .. b", EdgesOfMarksTests::wordsInMove);
        DESK.says("WITHIN: all GAPS that a MARK tells are inside a MOVE's a .. b", EdgesOfMarksTests::gapsInMove);
        DESK.says("WITHIN: or inside one of the two parts of a TURN", EdgesOfMarksTests::partsOfTurn);
        DESK.says("a GAP is inside a row of WORDS, if it is between two of them", EdgesOfMarksTests::gapInside);
        DESK.says("WITHIN: none is in a STRIKE, a PUT or a CHANGE", EdgesOfMarksTests::noCarrier);
        DESK.says("MEET, if neither is WITHIN the other", EdgesOfMarksTests::withinDoesNotMeet);
        DESK.says("MEET, if they tell a WORD in common", EdgesOfMarksTests::commonWord);
        DESK.says("MEET, or a GAP that one tells is inside the row of WORDS that the other tells", EdgesOfMarksTests::gapInRow);
        DESK.says("MEET (of a TURN a .. c as one row)", EdgesOfMarksTests::turnIsOneRow);
        DESK.says("(Two GAPS that are the same don't MEET.)", EdgesOfMarksTests::sameGaps);
        DESK.says("DONE: of those that ASK, by the RANKS of their HANDS (0 first)", EdgesOfMarksTests::byRank);
        DESK.says("DONE: of one RANK by number", EdgesOfMarksTests::byNumber);
        DESK.says("DONE: each that MEETS none that is DONE already", EdgesOfMarksTests::meetsNoneDone);
        DESK.says("OVERRULED by the first by number of those that it MEETS", EdgesOfMarksTests::overruledByFirst);
        DESK.says("THE TEXT: ahead of WORD i what comes in at GAP i: by the numbers of their MARKS", EdgesOfMarksTests::gapOrder);
        DESK.says("THE TEXT: the row that a MOVE brings (its own WORDS)", EdgesOfMarksTests::moveEdges);
        DESK.says("THE TEXT: and at each GAP inside what comes in there", EdgesOfMarksTests::moveInside);
        DESK.says("THE TEXT: struck and moved WORDS are left out", EdgesOfMarksTests::leftOut);
        DESK.says("THE TEXT: for changed ones the WORDS told stand once", EdgesOfMarksTests::changedOnce);
        DESK.says("THE TEXT: a TURN's second part, then its first", EdgesOfMarksTests::turnParts);
        DESK.says("THE TEXT: at the end the last GAP", EdgesOfMarksTests::lastGap);
        DESK.says("THE TEXT: MARKS within MARKS, as deep as can be", EdgesOfMarksTests::deep);
        DESK.close();
    }

    private static void due(String what, long got, long want) {
        DESK.due(what, got, want);
    }

    private static void dueText(String first, String marks, String text) {
        MarkedProof x = Desk.open(first, marks);
        due("KIND of '" + marks + "'", x.fault(0), 0);
        due("all of '" + marks + "' are DONE", x.count(5), x.count(3));
        DESK.due("THE TEXT of '" + marks + "' on '" + first + "'", Desk.text(x, 2), text);
        due("its length", x.count(2), text.isEmpty() ? 0 : text.split(" ").length);
    }

    private static int within(String one, String other) {
        MarkedProof x = Desk.open(EIGHT, "author " + one + "; reader " + other + ";");
        due("both of '" + one + "', '" + other + "' came", x.count(3), 2);
        return x.within(0, 1);
    }

    private static void dueWithin(String one, String other, int want) {
        due("'" + one + "' in '" + other + "'", within(one, other), want);
    }

    private static void dueMeet(String one, String other, int want) {
        MarkedProof x = Desk.open(EIGHT, "author " + one + "; reader " + other + ";");
        due("both of '" + one + "', '" + other + "' came", x.count(3), 2);
        due("'" + one + "' and '" + other + "'", x.meet(0, 1), want);
        due("the other way: '" + one + "' and '" + other + "'", x.meet(1, 0), want);
        due("the second of them is OVERRULED", x.mark(1, 6), want);
        due("by the first", x.mark(1, 7), want == 1 ? 0 : NONE);
    }

    /** What 6 of each MARK, and a dot; then what 7 of each. */
    private static String fates(MarkedProof x) {
        StringBuilder all = new StringBuilder();
        for (int k = 0; k < x.count(3); k++) {
            all.append(x.mark(k, 6));
        }
        for (int k = 0; k < x.count(3); k++) {
            all.append(k == 0 ? "." : " ").append(x.mark(k, 7));
        }
        return all.toString();
    }

    private static void voidByStet() {
        MarkedProof x = Desk.open("a b", "author strike 0 0; reader ? put 0 = x; reader strike 0 1; printer stet 0; author stet 1; author stet 2;");
        DESK.due("one that asked, one that waits, one OVERRULED", fates(x), "222444.3 4 5 -1 -1 -1");
        DESK.due("THE TEXT", Desk.text(x, 2), "a b");
        due("VOID", x.count(7), 3);
        due("none WAITS", x.count(8), 0);
        due("no answer is looked for", x.answer(1, true), MarkedProof.STATE);
        Desk.marks(x, "author stet 0; author stet 1;");
        DESK.due("a second STET changes nothing", fates(x), "22244444.3 4 5 -1 -1 -1 -1 -1");
        due("VOID, each once", x.count(7), 3);
        MarkedProof y = Desk.open("a b", "author strike 0 0; reader strike 0 0; author stet 0;");
        DESK.due("what it overruled is done", fates(y), "204.2 -1 -1");
        MarkedProof z = Desk.open("a b", "author strike 0 0; printer stet 0;");
        due("by a HAND of any RANK", z.mark(0, 6), 2);
    }

    private static void stetIsNeverDone() {
        MarkedProof x = Desk.open("a b", "author put 0 = x; author stet 0; reader put 0 = y;");
        due("its state", x.mark(1, 6), 4);
        due("by none", x.mark(1, 7), NONE);
        due("MARKS", x.count(3), 3);
        due("those that ASK", x.count(4), 1);
        due("DONE", x.count(5), 1);
        due("OVERRULED", x.count(6), 0);
        due("VOID", x.count(7), 1);
        due("those that WAIT", x.count(8), 0);
        due("it costs nothing", x.pays(0), 10);
        MarkedProof y = Desk.open("a", "author put 0 = x;".repeat(8) + "author ? put 0 = y; author stet 8; author stet 8;");
        due("it is none of eight", y.hold() == MarkedProof.FULL ? 1 : 0, 0);
    }

    private static void queryWaits() {
        MarkedProof x = Desk.open("a b", "author ? strike 0 0; reader strike 0 1; printer ? put 1 = x;");
        DESK.due("two wait", fates(x), "303.-1 -1 -1");
        due("what WAITS overrules none", x.count(6), 0);
        due("what WAITS is not in THE TEXT", x.count(2), 0);
        due("nor does it ASK", x.count(4), 1);
        due("nor pay", x.pays(0) * 100 + x.pays(1), 500);
        due("two WAIT", x.count(8), 2);
        x.rank(0, 5);
        x.error(0, true);
        Desk.marks(x, "author put 0 = q;");
        due("till it is answered", x.mark(0, 6), 3);
        due("answered", x.answer(0, true), 1);
        due("it WAITS no more", x.mark(0, 6), 1);
        due("one WAITS", x.count(8), 1);
        MarkedProof y = Desk.open("a", "author ? put 0 = x;".repeat(9));
        due("nine that wait can be held", y.hold(), 2);
    }

    private static void answeredYes() {
        MarkedProof x = Desk.open("a b", "author ? strike 0 0; author strike 0 1; author put 0 = x; author ? put 0 = y; author put 0 = z;");
        DESK.due("ahead of it", fates(x), "30030.-1 -1 -1 -1 -1");
        due("yes", x.answer(0, true), 1);
        DESK.due("by its number, not by its answer", fates(x), "01030.-1 0 -1 -1 -1");
        due("yes", x.answer(3, true), 1);
        DESK.due("in its place by number", Desk.text(x, 2), "x y z b");
        MarkedProof y = Desk.open("a b", "author strike 0 0; author strike 0 1; author put 0 = x; author put 0 = y; author put 0 = z;");
        DESK.due("the same as without ?", fates(x), fates(y));
        MarkedProof z = Desk.open("a b", "author strike 0 0; reader ? strike 0 1;");
        due("yes", z.answer(1, true), 1);
        due("it may be OVERRULED then", z.mark(1, 6) * 10 + z.mark(1, 7), 10);
    }

    private static void answeredNo() {
        MarkedProof x = Desk.open("a b", "author ? strike 0 0; reader strike 0 1;");
        due("no", x.answer(0, false), 1);
        DESK.due("VOID by none", fates(x), "20.-1 -1");
        due("VOID", x.count(7), 1);
        due("none WAITS", x.count(8), 0);
        due("it can't be answered again", x.answer(0, true), MarkedProof.STATE);
        due("it stays VOID", x.mark(0, 6), 2);
        due("a STET of it may be told", Desk.marks(x, "author stet 0;"), 1);
        DESK.due("by none, of a QUERY answered no", fates(x), "204.-1 -1 -1");
        due("VOID once", x.count(7), 1);
    }

    private static void asking() {
        MarkedProof x = Desk.open("a b c", "author strike 0 0; reader strike 0 1; author ? put 0 = x; author put 0 = y; author stet 3; author ? put 0 = z;"
            + "author ? put 1 = v;");
        x.answer(5, false);
        x.answer(6, true);
        DESK.due("each", fates(x), "0132420.-1 0 -1 4 -1 -1 -1");
        due("ASK", x.count(4), 3);
        due("DONE", x.count(5), 2);
        due("OVERRULED", x.count(6), 1);
        due("VOID", x.count(7), 2);
        due("WAIT", x.count(8), 1);
    }

    private static void wordsInMove() {
        for (int a = 0; a < 8; a++) {
            for (int b = a; b < 8; b++) {
                dueWithin("strike " + a + " " + b, "move 3 5 0", a >= 3 && b <= 5 ? 1 : 0);
                dueWithin("change " + a + " " + b + " = x", "move 3 5 8", a >= 3 && b <= 5 ? 1 : 0);
            }
            for (int c = a + 1; c < 8; c++) {
                dueWithin("turn " + a + " " + (a + 1) + " " + c, "move 3 5 1", a >= 3 && c <= 5 ? 1 : 0);
            }
        }
        dueWithin("strike 4 4", "move 4 4 0", 1);
        dueWithin("turn 3 4 5", "move 3 5 0", 1);
    }

    private static void gapsInMove() {
        for (int g = 0; g <= 8; g++) {
            dueWithin("put " + g + " = x", "move 3 5 0", g == 4 || g == 5 ? 1 : 0);
        }
        dueWithin("move 3 3 5", "move 3 5 0", 1);
        dueWithin("move 3 3 6", "move 3 5 0", 0);
        dueWithin("move 5 5 4", "move 3 5 0", 1);
        dueWithin("move 5 5 3", "move 3 5 0", 0);
        dueWithin("move 4 4 0", "move 3 5 0", 0);
        dueWithin("move 2 2 4", "move 3 5 0", 0);
        dueWithin("move 6 6 4", "move 3 5 0", 0);
        dueWithin("move 3 5 1", "move 3 5 0", 0);
    }

    private static void partsOfTurn() {
        for (int a = 0; a < 8; a++) {
            for (int b = a; b < 8; b++) {
                boolean isInside = a >= 1 && b <= 2 || a >= 3 && b <= 6;
                dueWithin("strike " + a + " " + b, "turn 1 3 6", isInside ? 1 : 0);
            }
        }
        for (int g = 0; g <= 8; g++) {
            dueWithin("put " + g + " = x", "turn 1 3 6", g == 2 || g >= 4 && g <= 6 ? 1 : 0);
        }
        dueWithin("turn 1 2 2", "turn 1 3 6", 1);
        dueWithin("turn 3 4 6", "turn 1 3 6", 1);
        dueWithin("turn 2 3 4", "turn 1 3 6", 0);
        dueWithin("turn 1 2 6", "turn 1 3 6", 0);
        dueWithin("move 3 3 6", "turn 1 3 6", 1);
        dueWithin("move 3 3 7", "turn 1 3 6", 0);
        dueWithin("move 6 6 4", "turn 1 3 6", 1);
        dueWithin("move 6 6 3", "turn 1 3 6", 0);
        dueWithin("move 5 6 2", "turn 1 3 6", 0);
        dueWithin("move 1 1 5", "turn 1 3 6", 0);
        dueWithin("strike 1 1", "turn 1 2 2", 1);
        dueWithin("strike 2 2", "turn 1 2 2", 1);
        dueWithin("strike 1 2", "turn 1 2 2", 0);
    }

    private static void gapInside() {
        dueWithin("put 3 = x", "move 3 3 0", 0);
        dueWithin("put 4 = x", "move 3 3 0", 0);
        dueWithin("put 4 = x", "move 3 4 0", 1);
        dueMeet("put 3 = x", "strike 3 3", 0);
        dueMeet("put 4 = x", "strike 3 3", 0);
        dueMeet("put 3 = x", "strike 3 4", 0);
        dueMeet("put 4 = x", "strike 3 4", 1);
        dueMeet("put 5 = x", "strike 3 4", 0);
        dueMeet("put 0 = x", "strike 0 7", 0);
        dueMeet("put 1 = x", "strike 0 7", 1);
        dueMeet("put 7 = x", "strike 0 7", 1);
        dueMeet("put 8 = x", "strike 0 7", 0);
    }

    private static void noCarrier() {
        dueWithin("strike 2 2", "strike 1 3", 0);
        dueWithin("put 2 = x", "strike 1 3", 0);
        dueWithin("strike 2 2", "change 1 3 = x", 0);
        dueWithin("put 2 = x", "change 1 3 = x", 0);
        dueWithin("put 2 = x", "put 2 = y", 0);
        dueWithin("move 1 3 5", "strike 1 3", 0);
    }

    private static void withinDoesNotMeet() {
        dueMeet("strike 3 5", "move 3 5 0", 0);
        dueMeet("move 3 5 0", "strike 3 5", 0);
        dueMeet("put 4 = x", "move 3 5 0", 0);
        dueMeet("strike 1 2", "turn 1 3 6", 0);
        dueMeet("strike 3 6", "turn 1 3 6", 0);
        dueMeet("turn 3 4 5", "move 3 5 0", 0);
        dueMeet("move 3 3 5", "move 3 5 0", 0);
        dueMeet("strike 2 5", "move 3 5 0", 1);
        dueMeet("strike 3 6", "move 3 5 0", 1);
        dueMeet("strike 2 3", "turn 1 3 6", 1);
    }

    private static void commonWord() {
        for (int a = 0; a < 8; a++) {
            for (int b = a; b < 8; b++) {
                dueMeet("strike " + a + " " + b, "change 3 4 = x", a <= 4 && b >= 3 ? 1 : 0);
            }
        }
        dueMeet("move 3 5 0", "move 3 5 0", 1);
        dueMeet("move 3 5 0", "move 5 6 0", 1);
        dueMeet("move 3 5 0", "move 6 6 0", 0);
        dueMeet("turn 1 2 3", "turn 3 4 5", 1);
        dueMeet("turn 1 2 3", "turn 4 5 6", 0);
        dueMeet("turn 1 2 3", "turn 1 2 3", 1);
        dueMeet("turn 1 2 3", "strike 0 1", 1);
        dueMeet("turn 1 2 3", "strike 0 0", 0);
        dueMeet("strike 0 0", "strike 0 0", 1);
    }

    private static void gapInRow() {
        for (int g = 0; g <= 8; g++) {
            dueMeet("put " + g + " = x", "strike 3 5", g == 4 || g == 5 ? 1 : 0);
            dueMeet("put " + g + " = x", "change 3 5 = y", g == 4 || g == 5 ? 1 : 0);
        }
        dueMeet("move 0 0 3", "strike 3 5", 0);
        dueMeet("move 0 0 4", "strike 3 5", 1);
        dueMeet("move 0 0 5", "strike 3 5", 1);
        dueMeet("move 0 0 6", "strike 3 5", 0);
        dueMeet("move 0 0 4", "move 3 5 1", 1);
        dueMeet("move 0 0 3", "move 3 5 0", 0);
        dueMeet("move 0 0 6", "move 3 5 0", 0);
        dueMeet("move 1 2 5", "move 5 6 1", 0);
        dueMeet("move 1 2 6", "move 5 6 2", 1);
    }

    private static void turnIsOneRow() {
        for (int g = 0; g <= 8; g++) {
            dueMeet("put " + g + " = x", "turn 1 3 6", g == 3 ? 1 : 0);
        }
        for (int g = 0; g < 7; g++) {
            dueMeet("move 7 7 " + g, "turn 1 3 6", g >= 2 ? 1 : 0);
        }
        dueMeet("put 2 = x", "turn 1 2 2", 1);
        dueMeet("put 1 = x", "turn 1 2 2", 0);
        dueMeet("put 3 = x", "turn 1 2 2", 0);
        dueMeet("move 0 0 2", "turn 1 2 2", 1);
    }

    private static void sameGaps() {
        dueMeet("put 0 = x", "put 0 = y", 0);
        dueMeet("put 3 = x", "put 3 = x", 0);
        dueMeet("put 8 = x", "put 8 = y", 0);
        dueMeet("put 3 = x", "move 5 5 3", 0);
        dueMeet("move 5 5 3", "move 6 6 3", 0);
        dueMeet("move 0 0 3", "move 6 6 3", 0);
    }

    private static void byRank() {
        MarkedProof x = Desk.open("a", "printer strike 0 0; reader strike 0 0; author strike 0 0;");
        DESK.due("0, 1, 2", fates(x), "110.2 2 -1");
        x.rank(0, 2);
        DESK.due("2, 1, 2", fates(x), "101.1 -1 1");
        x.rank(0, 9);
        x.rank(1, 9);
        x.rank(2, 8);
        DESK.due("9, 9, 8", fates(x), "011.-1 0 0");
        x.rank(2, 9);
        x.rank(0, 0);
        DESK.due("0, 9, 9", fates(x), "110.2 2 -1");
        MarkedProof y = Desk.open("a b", "printer put 0 = p; reader put 0 = r; author put 0 = a;");
        y.rank(0, 9);
        due("those that MEET none are done whatever their RANK", y.count(5), 3);
    }

    private static void byNumber() {
        MarkedProof x = Desk.open("a", "author strike 0 0; author strike 0 0; author strike 0 0;");
        DESK.due("one HAND", fates(x), "011.-1 0 0");
        MarkedProof y = Desk.open("a", "printer strike 0 0; author strike 0 0; reader strike 0 0;");
        y.rank(0, 4);
        y.rank(1, 4);
        y.rank(2, 4);
        DESK.due("three HANDS of one RANK", fates(y), "011.-1 0 0");
    }

    private static void meetsNoneDone() {
        MarkedProof x = Desk.open(EIGHT, "author strike 0 2; author strike 2 4; author strike 4 6;");
        DESK.due("what is OVERRULED overrules none", fates(x), "010.-1 0 -1");
        Desk.marks(x, "author stet 0;");
        DESK.due("without the first", fates(x), "2014.3 -1 1 -1");
        MarkedProof y = Desk.open(EIGHT, "reader strike 0 2; author strike 2 4; printer strike 0 1;");
        DESK.due("the same by RANK", fates(y), "100.1 -1 -1");
    }

    private static void overruledByFirst() {
        MarkedProof x = Desk.open(EIGHT, "author strike 5 5; author strike 1 1; reader strike 1 5;");
        DESK.due("the first by number, not by place", fates(x), "001.-1 -1 0");
        MarkedProof y = Desk.open(EIGHT, "reader strike 5 5; author strike 1 1; printer strike 1 5;");
        DESK.due("the first by number, not by RANK", fates(y), "001.-1 -1 0");
        MarkedProof z = Desk.open(EIGHT, "printer strike 5 5; author strike 1 1; reader strike 1 5;");
        DESK.due("of those that were DONE already", fates(z), "001.-1 -1 1");
        MarkedProof w = Desk.open(EIGHT, "author strike 5 6; reader strike 4 5; printer strike 4 6;");
        DESK.due("not by one that is OVERRULED", fates(w), "011.-1 0 0");
    }

    private static void gapOrder() {
        dueText("a b", "printer put 1 = p; author put 1 = q r; reader put 1 = s;", "a p q r s b");
        dueText("a b c d", "printer put 1 = p; author move 3 3 1; reader put 1 = s; author move 2 2 1;", "a p d s c b");
        dueText("a b c", "author put 3 = x; author put 0 = y; author put 3 = z;", "y a b c x z");
        dueText("a b c d", "author move 0 0 2; author put 2 = x; author move 3 3 2;", "b a x d c");
        dueText("a b c", "author strike 1 1; author put 2 = y; author put 1 = x;", "a x y c");
    }

    private static void moveEdges() {
        dueText("a b c d", "author move 1 2 0; author put 1 = x;", "b c a x d");
        dueText("a b c d", "author move 1 2 0; author put 3 = x;", "b c a x d");
        dueText("a b c d", "author move 1 2 4; author put 1 = x; author put 3 = y;", "a x y d b c");
        dueText("a b c d", "author move 0 0 4; author put 0 = x; author put 1 = y;", "x y b c d a");
        dueText("a b c d", "author move 3 3 0; author put 3 = x; author put 4 = y;", "d a b c x y");
        dueText("a b c d e", "author move 0 1 3; author move 3 4 0;", "d e c a b");
        dueText("a b c", "author move 0 0 2; author move 2 2 1;", "c b a");
    }

    private static void moveInside() {
        dueText("a b c d", "author move 1 3 0; author put 2 = x; author put 3 = y;", "b x c y d a");
        dueText("a b c d", "author move 1 3 0; author move 3 3 2;", "b d c a");
        dueText("a b c d", "author put 2 = x; author move 1 2 4; author put 2 = y;", "a d b x y c");
        dueText("a b c d e", "author move 1 4 0; author move 3 4 2; author put 4 = x;", "b d x e c a");
        dueText("a b c d", "author move 1 2 0; author put 2 = x; author strike 1 1; author strike 2 2;", "x a d");
        dueText("a b c d", "author move 1 2 0; author change 1 2 = p q r;", "p q r a d");
        dueText("a b c d", "author move 1 2 0; author turn 1 2 2;", "c b a d");
    }

    private static void leftOut() {
        dueText("a", "author strike 0 0;", "");
        dueText("a b c", "author strike 0 0; author strike 2 2;", "b");
        dueText("a b c", "author strike 0 2;", "");
        dueText("a b c", "author strike 0 2; author put 0 = x; author put 3 = y;", "x y");
        dueText("a b c", "author move 0 0 2; author strike 0 0;", "b c");
        dueText("a b", "author turn 0 1 1; author strike 0 0; author strike 1 1;", "");
    }

    private static void changedOnce() {
        dueText("a b c", "author change 0 2 = x;", "x");
        dueText("a b c", "author change 1 2 = x y z;", "a x y z");
        dueText("a b c", "author change 0 0 = a;", "a b c");
        dueText("a b c", "author change 0 0 = x; author change 1 1 = y; author change 2 2 = z;", "x y z");
        dueText("a b c", "author change 1 1 = x; author put 1 = p; author put 2 = q;", "a p x q c");
        dueText("a b c d", "author turn 0 2 3; author change 0 1 = x; author change 2 3 = y;", "y x");
    }

    private static void turnParts() {
        dueText("a b", "author turn 0 1 1;", "b a");
        dueText("a b c d", "author turn 1 2 3; author put 1 = x; author put 4 = y;", "a x c d b y");
        dueText("a b c d", "author turn 0 2 3; author put 1 = x; author put 3 = y;", "c y d a x b");
        dueText("a b c d", "author turn 0 2 3; author move 1 1 4;", "c d a b", 1);
        dueText("a b c d", "author turn 0 1 1; author turn 2 3 3;", "b a d c");
        dueText("a b c d", "author turn 0 2 3; author turn 0 1 1; author turn 2 3 3;", "d c b a");
        dueText("a b c d", "author turn 0 1 1; author move 3 3 0; author put 0 = x; author put 2 = y;", "d x b a y c");
        dueText("a b c d e", "author turn 0 3 4; author move 0 0 2;", "d e b a c");
    }

    /** With one that is OVERRULED. */
    private static void dueText(String first, String marks, String text, int overruled) {
        MarkedProof x = Desk.open(first, marks);
        due("OVERRULED of '" + marks + "'", x.count(6), overruled);
        DESK.due("THE TEXT of '" + marks + "' on '" + first + "'", Desk.text(x, 2), text);
    }

    private static void lastGap() {
        dueText("", "author put 0 = x; author put 0 = y;", "x y");
        dueText("a", "author put 1 = x;", "a x");
        dueText("a", "author strike 0 0; author put 1 = x; author put 0 = y;", "y x");
        dueText("a b", "author move 0 0 2; author put 2 = x;", "b a x");
        dueText("a b", "author put 2 = x; author move 0 0 2;", "b x a");
        dueText("a b", "author turn 0 1 1; author put 2 = x;", "b a x");
        dueText("a b", "author change 1 1 = z; author put 2 = x;", "a z x");
    }

    private static void deep() {
        StringBuilder marks = new StringBuilder();
        StringBuilder text = new StringBuilder();
        for (int i = 0; i < 40; i++) {
            marks.append("author turn ").append(i).append(' ').append(i + 1).append(" 59;");
        }
        for (int i = 40; i < 60; i++) {
            text.append('w').append(i).append(' ');
        }
        for (int i = 39; i >= 0; i--) {
            text.append('w').append(i).append(i > 0 ? " " : "");
        }
        dueText(Desk.proofOf(60), marks.toString(), text.toString());
        StringBuilder moves = new StringBuilder();
        for (int i = 0; i < 29; i++) {
            // each carries the next: WORDS 2i + 2 and on go ahead of WORD 2i + 1, inside the row before
            moves.append("author move ").append(2 * i + 2).append(" 59 ").append(2 * i + 1).append(';');
        }
        StringBuilder moved = new StringBuilder("w0");
        for (int i = 0; i < 29; i++) {
            moved.append(i < 28 ? " w" + (2 * i + 2) : " w58 w59");
        }
        for (int i = 28; i >= 0; i--) {
            moved.append(" w").append(2 * i + 1);
        }
        dueText(Desk.proofOf(60), moves.toString(), moved.toString());
    }
}
