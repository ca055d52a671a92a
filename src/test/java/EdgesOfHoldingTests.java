/** Terms III, sentence by sentence: each that names a boundary has a test of its own. */
public final class EdgesOfHoldingTests {
    private static final Desk DESK = new Desk();
    private static final int NONE = MarkedProof.NONE;

    public static void main(String[] args) {
        DESK.says("A SECOND PROOF, at most 150 WORDS", EdgesOfHoldingTests::atMost150);
        DESK.says("DISTANCE: the least number of WORDS to be put in, struck, or changed one for one", EdgesOfHoldingTests::distances);
        DESK.says("for each set of DONE MARKS, taken for MISSED", EdgesOfHoldingTests::everySet);
        DESK.says("THE TEXT of the DONE ones without the set", EdgesOfHoldingTests::textWithout);
        DESK.says("times the cost of a change, times the cost of a miss (1 .. 9 each; 2 and 3 at first)", EdgesOfHoldingTests::costsAtFirst);
        DESK.says("the set that costs least", EdgesOfHoldingTests::leastCost);
        DESK.says("of these the one of fewest", EdgesOfHoldingTests::fewest);
        DESK.says("of these the least (bit i: the i-th of the DONE ones by number)", EdgesOfHoldingTests::leastSet);
        DESK.says("UNASKED: a WORD that is the same is passed, if the least is kept so", EdgesOfHoldingTests::passed);
        DESK.says("UNASKED: else a change", EdgesOfHoldingTests::changedFirst);
        DESK.says("UNASKED: else one struck", EdgesOfHoldingTests::struckNext);
        DESK.says("UNASKED: else one put in", EdgesOfHoldingTests::putLast);
        DESK.says("UNASKED: in the DISTANCE from THE TEXT without that set, from the first WORDS on", EdgesOfHoldingTests::fromTheTextWithout);
        DESK.says("each DONE MARK costs by its kind (5, 10, 10, 8, 12 pence at first)", EdgesOfHoldingTests::pricesAtFirst);
        DESK.says("put down to the printer, if its HAND is the printer", EdgesOfHoldingTests::printersHand);
        DESK.says("or it is told to be his ERROR; else to the author", EdgesOfHoldingTests::printersError);
        DESK.close();
    }

    private static void due(String what, long got, long want) {
        DESK.due(what, got, want);
    }

    private static MarkedProof held(String first, String marks, String second, int change, int miss) {
        MarkedProof x = Desk.open(first, marks);
        due("KIND of " + marks, x.fault(0), 0);
        Desk.second(x, second);
        due("KIND of " + second, x.fault(0), 0);
        due("costs", x.costs(change, miss), 1);
        return x;
    }

    private static void dueHeld(MarkedProof x, int cost, int set, int missed, int apart) {
        due("hold()", x.hold(), cost);
        due("the set", x.held(0), set);
        due("MISSED", x.held(1), missed);
        due("UNASKED", x.held(2), apart);
        due("as many as that", x.unasked(apart - 1, 0) != NONE || apart == 0 ? 1 : 0, 1);
        due("no more than that", x.unasked(apart, 0), NONE);
        due("no more are MISSED", x.held(10 + missed), NONE);
    }

    private static void atMost150() {
        MarkedProof x = new MarkedProof();
        due("149", Desk.second(x, Desk.proofOf(149)), 149);
        due("150", Desk.second(x, Desk.proofOf(150)), 150);
        due("WORD 149", x.word(1, 149), 'w' * 0x1000000L + '1' * 0x10000 + '4' * 256 + '9');
        due("no WORD 150", x.word(1, 150), 0);
        due("151", Desk.second(x, Desk.proofOf(151)), NONE);
        due("KIND", x.fault(0), 3);
        due("PLACE", x.fault(1), Desk.proofOf(150).length() + 1);
        due("150 stay", x.count(1), 150);
        due("all are put in", x.hold(), 300);
        due("the last of them", x.unasked(149, 2), 149);
        due("no more", x.unasked(150, 0), NONE);
    }

    private static void dueDistance(String one, String other, int want) {
        MarkedProof x = Desk.open(one, "");
        Desk.second(x, other);
        due("'" + one + "' to '" + other + "'", x.distance(0, 1), want);
        due("'" + other + "' to '" + one + "'", x.distance(1, 0), want);
        due("THE TEXT is the first one without MARKS", x.distance(2, 1), want);
        due("of the same two", x.distance(0, 0) + x.distance(1, 1) + x.distance(2, 2) + x.distance(0, 2), 0);
    }

    private static void distances() {
        dueDistance("", "", 0);
        dueDistance("a", "", 1);
        dueDistance("a", "a", 0);
        dueDistance("a", "A", 1);
        dueDistance("a", "aa", 1);
        dueDistance("a b", "b a", 2);
        dueDistance("a b c", "b c", 1);
        dueDistance("a b c", "a c", 1);
        dueDistance("a b c", "a b", 1);
        dueDistance("a b c d", "b c d e", 2);
        dueDistance("a b c d", "d a b c", 2);
        dueDistance("k i t t e n", "s i t t i n g", 3);
        dueDistance("abcdefgh", "abcdefgi", 1);
        dueDistance("abcdefgh", "bbcdefgh", 1);
        dueDistance(Desk.proofOf(60), Desk.proofOf(150), 90);
        dueDistance(Desk.proofOf(60), "x ".repeat(150), 150);
        dueDistance(Desk.proofOf(60), "", 60);
        MarkedProof x = Desk.open(Desk.proofOf(60), "author put 0=a b c d e f;".repeat(40));
        due("the longest TEXT and the first", x.distance(0, 2), 240);
        due("the longest TEXT and none", x.distance(2, 1), 300);
        due("the same", x.distance(2, 2), 0);
        Desk.second(x, "x ".repeat(150));
        due("the longest of both", x.distance(2, 1), 300);
        due("the other way", x.distance(1, 2), 300);
    }

    private static void everySet() {
        String marks = "author put 0 = p;author put 0 = q;author put 0 = r;author put 0 = s;author put 0 = t;author put 0 = u;"
            + "author put 0 = v;author put 0 = w;";
        for (int set = 0; set < 256; set++) {
            StringBuilder second = new StringBuilder();
            for (int i = 0; i < 8; i++) {
                second.append((set >> i & 1) == 1 ? "" : (char) ('p' + i) + " ");
            }
            int missed = Integer.bitCount(set);
            MarkedProof x = held("a", marks, second + "a", 9, 1);
            dueHeld(x, missed, set, missed, 0);
            int i = 0;
            for (int k = 0; k < 8; k++) {
                if ((set >> k & 1) == 1) {
                    due("the next that is MISSED", x.held(10 + i++), k);
                }
            }
        }
        dueHeld(held("", "", "", 9, 9), 0, 0, 0, 0);
        MarkedProof y = held("a b c d", "author strike 0 1; reader strike 1 2; reader ? strike 3 3; author put 4 = x; author stet 3;", "a b c d", 9, 1);
        dueHeld(y, 1, 1, 1, 0);
        due("none of those that aren't DONE", y.held(10), 0);
    }

    private static void textWithout() {
        dueHeld(held("a b c d", "author move 1 2 0; author put 2 = x;", "b x c a d", 9, 1), 0, 0, 0, 0);
        dueHeld(held("a b c d", "author move 1 2 0; author put 2 = x;", "a b x c d", 9, 1), 1, 1, 1, 0);
        dueHeld(held("a b c d", "author move 1 2 0; author put 2 = x;", "b c a d", 9, 1), 1, 2, 1, 0);
        dueHeld(held("a b c d", "author turn 0 2 3; author strike 1 1;", "a c d", 9, 1), 1, 1, 1, 0);
        dueHeld(held("a b c d", "author strike 0 1; reader change 1 2 = x;", "a b c d", 9, 1), 1, 1, 1, 0);
        // what is OVERRULED is not done, though what overruled it is taken for MISSED
        dueHeld(held("a b c d", "author strike 0 1; reader change 1 2 = x;", "a x d", 9, 1), 18, 0, 0, 2);
    }

    private static void costsAtFirst() {
        MarkedProof x = Desk.open("a", "author strike 0 0;");
        Desk.second(x, "a b");
        dueHeld(x, 4, 0, 0, 2);
        Desk.second(x, "a");
        dueHeld(x, 2, 0, 0, 1);
        Desk.first(x, "a b c");
        Desk.marks(x, "author change 0 2 = p q r;");
        Desk.second(x, "a b c");
        dueHeld(x, 3, 1, 1, 0);
        for (int change = 1; change <= 9; change++) {
            for (int miss = 1; miss <= 9; miss++) {
                MarkedProof y = held("a", "author change 0 0 = x;", "a", change, miss);
                boolean isMissed = miss < change;
                dueHeld(y, Math.min(change, miss), isMissed ? 1 : 0, isMissed ? 1 : 0, isMissed ? 0 : 1);
                Desk.second(y, "x y z");
                dueHeld(y, 2 * change, 0, 0, 2);
            }
        }
    }

    private static void leastCost() {
        String marks = "author strike 0 0; author change 2 3 = x y;";
        dueHeld(held("a b c d", marks, "b x y", 2, 3), 0, 0, 0, 0);
        dueHeld(held("a b c d", marks, "b c d", 2, 3), 3, 2, 1, 0);
        dueHeld(held("a b c d", marks, "a b c d", 2, 3), 5, 2, 1, 1);
        dueHeld(held("a b c d", marks, "a b c d", 2, 1), 2, 3, 2, 0);
        dueHeld(held("a b c d", marks, "a b c d", 1, 3), 3, 0, 0, 3);
        dueHeld(held("a b c d", marks, "", 9, 1), 27, 0, 0, 3);
        dueHeld(held(Desk.proofOf(60), "author put 0=a b c d e f;".repeat(8), "x ".repeat(150), 9, 9), 1350, 0, 0, 150);
        dueHeld(held(Desk.proofOf(60), "author put 0=a b c d e f;".repeat(8), "", 9, 9), 612, 255, 8, 60);
        dueHeld(held(Desk.proofOf(60), "author put 0=a b c d e f;".repeat(8), "", 1, 9), 108, 0, 0, 108);
    }

    private static void fewest() {
        dueHeld(held("a", "author put 0 = p q; author put 0 = r s; author put 0 = p q r x;", "p q r x a", 3, 3), 6, 4, 1, 1);
        dueHeld(held("a", "author change 0 0 = x;", "a", 3, 3), 3, 0, 0, 1);
        dueHeld(held("a b", "author change 0 1 = x y;", "a b", 2, 4), 4, 0, 0, 2);
        dueHeld(held("a b", "author change 0 1 = x y;", "a b", 2, 3), 3, 1, 1, 0);
        dueHeld(held("a b", "author change 0 1 = x y;", "a b", 2, 5), 4, 0, 0, 2);
    }

    private static void leastSet() {
        dueHeld(held("a a a", "author strike 0 0; author strike 1 1; author strike 2 2;", "a", 9, 1), 1, 1, 1, 0);
        dueHeld(held("a a a", "author strike 0 0; author strike 1 1; author strike 2 2;", "a a", 9, 1), 2, 3, 2, 0);
        MarkedProof x = held("a b", "reader ? put 0 = z; printer put 0 = x; author put 0 = y; author stet 1; author put 0 = x;", "y a b", 9, 1);
        dueHeld(x, 1, 2, 1, 0);
        due("the second DONE one is MARK 4", x.held(10), 4);
        MarkedProof y = held("a b", "printer put 0 = x; reader put 0 = x; author put 0 = x;", "x x a b", 9, 1);
        dueHeld(y, 1, 1, 1, 0);
        due("by number, not by RANK", y.held(10), 0);
    }

    private static void dueChanges(String first, String second, int... told) {
        MarkedProof x = Desk.open(first, "");
        Desk.second(x, second);
        due("cost from '" + first + "' to '" + second + "'", x.hold(), told.length / 3 * 2);
        for (int i = 0; i < told.length; i++) {
            due("'" + first + "' to '" + second + "', change " + i / 3 + ", what " + i % 3, x.unasked(i / 3, i % 3), told[i]);
        }
        due("no more", x.unasked(told.length / 3, 0), NONE);
    }

    private static void passed() {
        dueChanges("a b c", "a b c");
        dueChanges("a a", "a", 1, 1, 1);
        dueChanges("a", "a a", 2, 1, 1);
        dueChanges("a a b", "a b", 1, 1, 1);
        dueChanges("a b", "a a b", 2, 1, 1);
        dueChanges("a b a b", "a b", 1, 2, 2, 1, 3, 2);
        dueChanges("a b a", "a", 1, 1, 1, 1, 2, 1);
        dueChanges("a", "a b a", 2, 1, 1, 2, 1, 2);
    }

    private static void changedFirst() {
        dueChanges("a", "b", 0, 0, 0);
        dueChanges("a b", "b a", 0, 0, 0, 0, 1, 1);
        dueChanges("a b", "x", 0, 0, 0, 1, 1, 1);
        dueChanges("a", "x y", 0, 0, 0, 2, 1, 1);
        dueChanges("a b c", "x y", 0, 0, 0, 0, 1, 1, 1, 2, 2);
        dueChanges("a b c", "a x c", 0, 1, 1);
        dueChanges("a b c", "b a x", 0, 0, 0, 0, 1, 1, 0, 2, 2);
    }

    private static void struckNext() {
        dueChanges("a b", "b", 1, 0, 0);
        dueChanges("a b c", "c", 1, 0, 0, 1, 1, 0);
        dueChanges("a b c d", "b c d e", 1, 0, 0, 2, 4, 3);
        dueChanges("a", "", 1, 0, 0);
        dueChanges("a b", "", 1, 0, 0, 1, 1, 0);
        dueChanges("a b c", "a b", 1, 2, 2);
        dueChanges("x a b c", "a b c y", 1, 0, 0, 2, 4, 3);
        dueChanges("a b c d e", "b c x a d e", 1, 0, 0, 2, 3, 2, 2, 3, 3);
    }

    private static void putLast() {
        dueChanges("", "a", 2, 0, 0);
        dueChanges("", "a b", 2, 0, 0, 2, 0, 1);
        dueChanges("b", "a b", 2, 0, 0);
        dueChanges("a b", "a b c", 2, 2, 2);
        dueChanges("a b c", "x a b y c z", 2, 0, 0, 2, 2, 3, 2, 3, 5);
        dueChanges("a b c d", "d a b c", 2, 0, 0, 1, 3, 4);
    }

    private static void fromTheTextWithout() {
        MarkedProof x = held("a b c", "author put 0 = p q; author put 3 = r;", "a x c r", 5, 6);
        dueHeld(x, 11, 1, 1, 1);
        due("a change", x.unasked(0, 0), 0);
        due("at a WORD of THE TEXT without p q", x.unasked(0, 1), 1);
        due("at a WORD of the SECOND PROOF", x.unasked(0, 2), 1);
        MarkedProof y = held("a b c", "author strike 0 0;", "b c d", 2, 3);
        dueHeld(y, 2, 0, 0, 1);
        due("put in behind THE TEXT, not the first proof", y.unasked(0, 0) * 100 + y.unasked(0, 1) * 10 + y.unasked(0, 2), 222);
    }

    private static void pricesAtFirst() {
        String[] kinds = {"strike 0 0", "put 0 = x", "change 0 0 = x", "turn 0 1 1", "move 0 0 2"};
        int[] pence = {5, 10, 10, 8, 12};
        for (int kind = 0; kind < 5; kind++) {
            MarkedProof x = Desk.open("a b", "author " + kinds[kind] + ";");
            due(kinds[kind], x.pays(0), pence[kind]);
            due(kinds[kind] + " told", x.price(kind, 0), pence[kind]);
            due(kinds[kind] + " for nothing", x.pays(0), 0);
        }
        MarkedProof y = Desk.open("a b", "author strike 0 0; reader strike 0 1; author ? put 0 = x; author put 0 = y; author stet 3;");
        due("DONE ones alone", y.pays(0), 5);
        due("nothing else", y.pays(1), 0);
        MarkedProof z = Desk.open("a", "author put 0 = x;".repeat(40));
        z.price(1, 999);
        due("the dearest", z.pays(0), 39960);
        due("of a new object", new MarkedProof().pays(0) + new MarkedProof().pays(1), 0);
    }

    private static void printersHand() {
        MarkedProof x = Desk.open("a b c", "author strike 0 0; reader strike 1 1; printer strike 2 2;");
        due("author and reader", x.pays(0), 10);
        due("printer", x.pays(1), 5);
        x.rank(2, 0);
        x.rank(0, 2);
        due("whatever the RANKS: author and reader", x.pays(0), 10);
        due("whatever the RANKS: printer", x.pays(1), 5);
        x.error(2, true);
        due("his own ERROR is his once", x.pays(1), 5);
        x.error(2, false);
        due("told to be no ERROR it is his still", x.pays(1), 5);
    }

    private static void printersError() {
        MarkedProof x = Desk.open("a b c", "author strike 0 0; reader turn 1 2 2; reader ? put 0 = x;");
        due("the author's", x.pays(0) * 100 + x.pays(1), 1300);
        x.error(0, true);
        due("his ERROR", x.pays(0) * 100 + x.pays(1), 805);
        x.error(1, true);
        due("both", x.pays(0) * 100 + x.pays(1), 13);
        x.error(0, false);
        due("not so", x.pays(0) * 100 + x.pays(1), 508);
        x.error(2, true);
        due("what WAITS costs nothing", x.pays(0) * 100 + x.pays(1), 508);
        x.answer(2, true);
        due("his when it is DONE", x.pays(0) * 100 + x.pays(1), 518);
    }
}
