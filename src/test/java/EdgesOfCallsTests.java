/** Promises 1 to 23, sentence by sentence: each that names a boundary or a refused call has a test of its own. */
public final class EdgesOfCallsTests {
    private static final Desk DESK = new Desk();
    private static final int NONE = MarkedProof.NONE;
    private static final int RANGE = MarkedProof.RANGE;
    private static final int FULL = MarkedProof.FULL;
    private static final int STATE = MarkedProof.STATE;
    private static final int MIN = Integer.MIN_VALUE;
    private static final int MAX = Integer.MAX_VALUE;

    public static void main(String[] args) {
        proofs();
        marks();
        secondProof();
        whoPays();
        DESK.close();
    }

    private static void proofs() {
        DESK.says("An object is used for at most 512 calls", EdgesOfCallsTests::used512Times);
        DESK.says("1: An empty FIRST PROOF, no MARKS, an empty SECOND one", EdgesOfCallsTests::isEmpty);
        DESK.says("2: Twenty bytes come behind THE TAPE, the highest of each int first: how many it has", EdgesOfCallsTests::feedTwenty);
        DESK.says("2: FULL when there would be more than 2000", EdgesOfCallsTests::feedFull);
        DESK.says("3: THE TAPE has its first n bytes alone: n", EdgesOfCallsTests::endCuts);
        DESK.says("3: NONE when it has not so many, or n is below 0", EdgesOfCallsTests::endRefused);
        DESK.says("4: THE TAPE is the FIRST PROOF (there are no MARKS then): how many WORDS", EdgesOfCallsTests::firstTaken);
        DESK.says("4: NONE with a FAULT: 1 a byte that is in no WORD, and no blank (at it)", EdgesOfCallsTests::firstByte);
        DESK.says("4: or the ninth of a WORD (at it)", EdgesOfCallsTests::firstNinth);
        DESK.says("4: 3 the 61st WORD (at its first byte)", EdgesOfCallsTests::first61);
        DESK.says("5: THE TAPE is the SECOND PROOF: how many WORDS", EdgesOfCallsTests::secondTaken);
        DESK.says("5: NONE with a FAULT likewise (the 151st)", EdgesOfCallsTests::secondFaults);
        DESK.says("6: THE TAPE is a text of MARKS: how many have come; NONE with a FAULT", EdgesOfCallsTests::marksTaken);
        DESK.says("7: Of the latest text that first(), second() or marks() read", EdgesOfCallsTests::faultOfLatest);
        DESK.says("7: its FAULT's KIND, 0 without (and ahead of any), 1: its PLACE (NONE)", EdgesOfCallsTests::faultWithout);
        DESK.says("7: NONE for another what", EdgesOfCallsTests::faultOther);
        DESK.says("8: its bytes as a number to the base 256, the first one highest", EdgesOfCallsTests::wordNumber);
        DESK.says("8: 0 when there is none such", EdgesOfCallsTests::wordNone);
    }

    private static void marks() {
        DESK.says("9: 2, 3, 4: its numbers as told (NONE where none are)", EdgesOfCallsTests::markNumbers);
        DESK.says("9: 5: how many WORDS it has", EdgesOfCallsTests::markWords);
        DESK.says("9: 6: DONE, OVERRULED, VOID, it WAITS, a STET", EdgesOfCallsTests::markStates);
        DESK.says("9: 7: by which (NONE; of a STET, or a QUERY answered no)", EdgesOfCallsTests::markCauses);
        DESK.says("9: 8: 1 if it is told to be an ERROR", EdgesOfCallsTests::markError);
        DESK.says("9: 10 + i: its i-th WORD (as word(), cut to its last 4 bytes)", EdgesOfCallsTests::markCutWords);
        DESK.says("9: -9 when there is none such", EdgesOfCallsTests::markNone);
        DESK.says("10: RANGE: no such MARK", EdgesOfCallsTests::answerRange);
        DESK.says("10: STATE: it doesn't WAIT", EdgesOfCallsTests::answerState);
        DESK.says("11: The RANK of a HAND, 0 .. 9: what it was", EdgesOfCallsTests::rankWas);
        DESK.says("11: RANGE", EdgesOfCallsTests::rankRange);
        DESK.says("12: 1 if two MARKS MEET, whatever they are now, else 0", EdgesOfCallsTests::meetWhatever);
        DESK.says("12: RANGE: no such, the same, or a STET", () -> dueRangeOfTwo(true));
        DESK.says("13: 1 if MARK k is WITHIN MARK o, else 0", EdgesOfCallsTests::withinOneWay);
        DESK.says("13: RANGE likewise", () -> dueRangeOfTwo(false));
    }

    private static void secondProof() {
        DESK.says("14: The cost of a change, and of a miss, 1 .. 9: 1", EdgesOfCallsTests::costsTaken);
        DESK.says("14: RANGE", EdgesOfCallsTests::costsRange);
        DESK.says("15: what the least set costs", EdgesOfCallsTests::holdCosts);
        DESK.says("15: FULL: more than 8 are DONE", EdgesOfCallsTests::holdFull);
        DESK.says("16: Of the latest hold() that was not FULL", EdgesOfCallsTests::heldOfLatest);
        DESK.says("16: NONE when there is none such", EdgesOfCallsTests::heldNone);
        DESK.says("17: by the latest hold() that was not FULL", EdgesOfCallsTests::unaskedOfLatest);
        DESK.says("17: (of a put one: ahead of which), (of a struck one: ahead of which)", EdgesOfCallsTests::unaskedPlaces);
        DESK.says("17: NONE when there is none such", EdgesOfCallsTests::unaskedNone);
        DESK.says("18: The DISTANCE of two of the texts that word() tells", EdgesOfCallsTests::distanceOfTexts);
        DESK.says("18: RANGE", EdgesOfCallsTests::distanceRange);
        DESK.says("19: The SECOND PROOF is the FIRST one, without MARKS; there is an empty SECOND one", EdgesOfCallsTests::nextTaken);
        DESK.says("19: STATE: it has none, or more than 60", EdgesOfCallsTests::nextState);
    }

    private static void whoPays() {
        DESK.says("20: 1 if it was otherwise, else 0", EdgesOfCallsTests::errorWas);
        DESK.says("20: RANGE: no such, or a STET", EdgesOfCallsTests::errorRange);
        DESK.says("21: The price of a kind 0 .. 4, 0 .. 999: what it was", EdgesOfCallsTests::priceWas);
        DESK.says("21: RANGE", EdgesOfCallsTests::priceRange);
        DESK.says("22: the author (0) or the printer (1) for all that is DONE", EdgesOfCallsTests::paysFor);
        DESK.says("22: RANGE", EdgesOfCallsTests::paysRange);
        DESK.says("23: What 0 .. 9", EdgesOfCallsTests::counts);
        DESK.says("23: 10 + h: the RANK of HAND h", EdgesOfCallsTests::countRanks);
        DESK.says("23: NONE for others", EdgesOfCallsTests::countNone);
    }

    private static void due(String what, long got, long want) {
        DESK.due(what, got, want);
    }

    /** An object in which there is something of everything. */
    private static MarkedProof busy() {
        MarkedProof x = Desk.open("a b c d e f", "author strike 0 0; reader strike 0 1; reader ? put 2 = p; author put 6 = q; author stet 3;"
            + "printer ? put 3 = r s; author ? turn 4 5 5; printer change 3 3 = t;");
        x.answer(5, true);
        x.answer(6, false);
        Desk.second(x, "b x c r s t y f");
        x.costs(5, 4);
        x.hold();
        x.error(1, true);
        Desk.tape(x, "left on the tape");
        return x;
    }

    /** A refused call answers so, and all that can be asked is as it was. */
    private interface Call {
        long on(MarkedProof x);
    }

    private static void dueRefused(String what, MarkedProof x, int want, Call call) {
        String before = Desk.all(x);
        due(what, call.on(x), want);
        DESK.due(what + " changes nothing", Desk.all(x), before);
    }

    private static void used512Times() {
        MarkedProof x = new MarkedProof();
        int calls = 0;
        for (int i = 0; i < 100; i++) {
            due("feed " + i, x.feed(0x61206120, 0x61206120, 0x61206120, 0x61206120, 0x61206120), 20);
            due("end " + i, x.end(19), 19);
            due("second " + i, x.second(), 10);
            due("next " + i, x.next(), 10);
            due("hold " + i, x.hold(), 20);
            calls += 5;
        }
        while (calls < 511) {
            due("count " + calls, x.count(0), 10);
            calls++;
        }
        due("the 512th call", x.count(2), 10);
    }

    private static void isEmpty() {
        MarkedProof x = new MarkedProof();
        for (int t = 0; t < 3; t++) {
            due("WORDS of " + t, x.count(t), 0);
            due("WORD 0 of " + t, x.word(t, 0), 0);
            due("DISTANCE", x.distance(t, 0) + x.distance(t, 1) + x.distance(t, 2), 0);
        }
        for (int what = 3; what <= 9; what++) {
            due("count " + what, x.count(what), 0);
        }
        due("no MARK 0", x.mark(0, 0), -9);
        due("meet", x.meet(0, 1), RANGE);
        due("next", x.next(), STATE);
        due("hold", x.hold(), 0);
        due("first of an empty tape", new MarkedProof().first(), 0);
        due("second of an empty tape", new MarkedProof().second(), 0);
        due("marks of an empty tape", new MarkedProof().marks(), 0);
        due("end(0) of an empty tape", new MarkedProof().end(0), 0);
        due("end(1) of an empty tape", new MarkedProof().end(1), NONE);
        MarkedProof y = busy();
        due("one object is not another", y.count(3) * 10 + new MarkedProof().count(3), 80);
    }

    private static void feedTwenty() {
        MarkedProof x = new MarkedProof();
        due("one", x.feed(0x61626364, 0x65660a67, 0x68696a6b, 0x6c6d200a, 0x6e6f7071), 20);
        due("two", x.feed(0x20727374, 0x75767778, 0x20797a41, 0x42434445, 0x46202020), 40);
        due("WORDS", x.first(), 5);
        DESK.due("in their order", Desk.text(x, 0), "abcdef ghijklm nopq rstuvwx yzABCDEF");
        x.feed(0x61ff6263, 0, 0, 0, 0);
        due("a byte above 127", x.first(), NONE);
        due("at it", x.fault(1), 1);
        x.feed(0xff616263, 0, 0, 0, 0);
        due("the highest byte above 127", x.first(), NONE);
        due("at it", x.fault(1), 0);
        x.feed(0x616200ff, 0x61616161, 0x61616161, 0x61616161, 0x61616161);
        due("a byte 0", x.first(), NONE);
        due("at it", x.fault(1), 2);
    }

    private static void feedFull() {
        MarkedProof x = new MarkedProof();
        for (int i = 1; i <= 100; i++) {
            due("feed " + i, x.feed(0x20202020, 0x20202020, 0x20202020, 0x20202020, 0x20202020), 20 * i);
        }
        dueRefused("2000 and 20", x, FULL, y -> y.feed(0x61616161, 0, 0, 0, 0));
        for (int n = 1999; n > 1980; n--) {
            due("end", x.end(n), n);
            dueRefused(n + " and 20", x, FULL, y -> y.feed(0x61616161, 0, 0, 0, 0));
        }
        due("end", x.end(1980), 1980);
        due("1980 and 20", x.feed(0x20202020, 0x20202020, 0x20202020, 0x20202020, 0x20202062), 2000);
        due("what was refused is not there", x.first(), 1);
        due("what was taken is", x.word(0, 0), 'b');
    }

    private static void endCuts() {
        MarkedProof x = new MarkedProof();
        Desk.tape(x, "abcde");
        due("all", x.end(5), 5);
        due("but one", x.end(4), 4);
        due("bytes", x.count(9), 4);
        due("behind what was left", x.feed(0x58202020, 0x20202020, 0x20202020, 0x20202020, 0x20202020), 24);
        due("read", x.first(), 1);
        DESK.due("the first bytes alone", Desk.text(x, 0), "abcdX");
        Desk.tape(x, "abc");
        due("none", x.end(0), 0);
        due("bytes", x.count(9), 0);
        due("none are read", x.first(), 0);
    }

    private static void endRefused() {
        MarkedProof x = busy();
        int bytes = x.count(9);
        for (int n : new int[] {-1, MIN, bytes + 1, 2000, 2001, MAX}) {
            dueRefused("end(" + n + ")", x, NONE, y -> y.end(n));
        }
        due("as many as it has", x.end(bytes), bytes);
        due("one less", x.end(bytes - 1), bytes - 1);
        dueRefused("as many as it had", x, NONE, y -> y.end(bytes));
    }

    private static void firstTaken() {
        MarkedProof x = busy();
        x.end(0);
        x.rank(1, 7);
        x.price(0, 6);
        due("WORDS", Desk.first(x, "k l m"), 3);
        due("no MARKS", x.count(3), 0);
        for (int what = 4; what <= 8; what++) {
            due("no MARKS: count " + what, x.count(what), 0);
        }
        due("no MARK 0", x.mark(0, 0), -9);
        DESK.due("THE TEXT", Desk.text(x, 2), "k l m");
        DESK.due("the SECOND PROOF stays", Desk.text(x, 1), "b x c r s t y f");
        due("nothing to pay", x.pays(0) + x.pays(1), 0);
        due("RANKS stay", x.count(11), 7);
        due("prices stay", x.price(0, 5), 6);
        due("costs stay", x.hold(), 8 * 5);
        dueFreshMarks(x);
        due("an empty text is a proof too", x.first(), 0);
        due("and there are no MARKS then", x.count(3), 0);
    }

    /** None of new MARKS is VOID, a QUERY or an ERROR because one with its number once was. */
    private static void dueFreshMarks(MarkedProof x) {
        due("new MARKS", Desk.marks(x, "printer put 0 = x;".repeat(8)), 8);
        for (int k = 0; k < 8; k++) {
            int[] told = {1, 2, 0, NONE, NONE, 1, 0, NONE, 0, -9, 'x', -9};
            for (int what = 0; what < told.length; what++) {
                due("new mark(" + k + ", " + what + ")", x.mark(k, what), told[what]);
            }
        }
        due("all are DONE", x.count(5), 8);
    }

    private static void dueProofFault(boolean isFirst, String text, int kind, int place) {
        MarkedProof x = busy();
        x.end(0);
        String before = Desk.all(x);
        Desk.tape(x, text);
        due("'" + text + "'", isFirst ? x.first() : x.second(), NONE);
        due("KIND of '" + text + "'", x.fault(0), kind);
        due("PLACE of '" + text + "'", x.fault(1), place);
        String behind = Desk.all(x);
        DESK.due("all but the FAULT", behind.substring(0, behind.lastIndexOf('/')), before.substring(0, before.lastIndexOf('/')));
    }

    private static void firstByte() {
        dueProofFault(true, "*", 1, 0);
        dueProofFault(true, "abc *", 1, 4);
        dueProofFault(true, "abc*", 1, 3);
        dueProofFault(true, "abc\t", 1, 3);
        dueProofFault(true, "a b=", 1, 3);
        dueProofFault(true, "a " + (char) 0, 1, 2);
        dueProofFault(true, "a " + (char) 255, 1, 2);
        dueProofFault(true, "abcdefgh*", 1, 8);
    }

    private static void firstNinth() {
        dueProofFault(true, "abcdefghi", 1, 8);
        dueProofFault(true, "a abcdefghijklmn", 1, 10);
        dueProofFault(true, "abcdefgh\nabcdefghi", 1, 17);
        MarkedProof x = new MarkedProof();
        due("eight and eight", Desk.first(x, "abcdefgh\nabcdefgh"), 2);
    }

    private static void first61() {
        dueProofFault(true, "a ".repeat(60) + "bcd", 3, 120);
        dueProofFault(true, "a ".repeat(60) + "\n\nbcd efg", 3, 122);
        dueProofFault(true, "a ".repeat(150), 3, 120);
        MarkedProof x = new MarkedProof();
        due("sixty and blanks", Desk.first(x, "a ".repeat(60) + "  \n"), 60);
    }

    private static void secondTaken() {
        MarkedProof x = busy();
        x.end(0);
        String first = Desk.text(x, 0);
        String text = Desk.text(x, 2);
        due("WORDS", Desk.second(x, "k l m"), 3);
        DESK.due("it is the SECOND", Desk.text(x, 1), "k l m");
        DESK.due("the FIRST stays", Desk.text(x, 0), first);
        DESK.due("THE TEXT stays", Desk.text(x, 2), text);
        due("the MARKS stay", x.count(3), 8);
        due("a shorter one", Desk.second(x, "n"), 1);
        due("nothing is left of the longer", x.word(1, 1), 0);
        due("none", x.second(), 0);
        due("it is empty", x.count(1), 0);
    }

    private static void secondFaults() {
        dueProofFault(false, "a *", 1, 2);
        dueProofFault(false, "abcdefgh*", 1, 8);
        dueProofFault(false, "a abcdefghi", 1, 10);
        dueProofFault(false, "a ".repeat(150) + "bcd", 3, 300);
        dueProofFault(false, "a ".repeat(150) + "\n*", 1, 301);
        MarkedProof x = new MarkedProof();
        due("61", Desk.second(x, "a ".repeat(61)), 61);
        due("150 and blanks", Desk.second(x, "a ".repeat(150) + " \n"), 150);
    }

    private static void marksTaken() {
        MarkedProof x = Desk.open("a b", "");
        due("none", x.marks(), 0);
        due("one", Desk.marks(x, "author put 0 = x;"), 1);
        due("three more", Desk.marks(x, "author put 0 = x; author stet 0; author ? put 1 = y;"), 3);
        due("four in all", x.count(3), 4);
        due("a FAULT", Desk.marks(x, "author put 0 = x; author"), NONE);
        due("four in all", x.count(3), 4);
    }

    private static void faultOfLatest() {
        MarkedProof x = Desk.open("a", "author strike 1 1;");
        due("of marks()", x.fault(0) * 100 + x.fault(1), 214);
        Desk.second(x, "ab*");
        due("of second()", x.fault(0) * 100 + x.fault(1), 102);
        Desk.first(x, "a ".repeat(61));
        due("of first()", x.fault(0) * 1000 + x.fault(1), 3120);
        x.feed(0x20202020, 0x20202020, 0x20202020, 0x20202020, 0x20202020);
        x.end(-1);
        x.hold();
        x.next();
        x.answer(0, true);
        due("no other call", x.fault(0) * 1000 + x.fault(1), 3120);
        due("a good text", x.second(), 0);
        due("none now", x.fault(0) * 10 + x.fault(1), -1);
    }

    private static void faultWithout() {
        MarkedProof x = new MarkedProof();
        due("KIND ahead of any", x.fault(0), 0);
        due("PLACE ahead of any", x.fault(1), NONE);
        for (int which = 0; which < 3; which++) {
            Desk.marks(x, "*");
            due("KIND", x.fault(0), 1);
            due("PLACE", x.fault(1), 0);
            due("good", which == 0 ? x.first() : which == 1 ? x.second() : x.marks(), 0);
            due("KIND without", x.fault(0), 0);
            due("PLACE without", x.fault(1), NONE);
        }
    }

    private static void faultOther() {
        MarkedProof x = Desk.open("*", "*");
        for (int what : new int[] {-1, 2, 3, 10, MIN, MAX}) {
            due("fault(" + what + ")", x.fault(what), NONE);
        }
    }

    private static void wordNumber() {
        MarkedProof x = Desk.open("z zzzzzzzz -!", "author put 3 = ABCDEFGH Z;");
        Desk.second(x, "azAZ09.,");
        due("one byte", x.word(0, 0), 122);
        due("eight bytes", x.word(0, 1), 0x7a7a7a7a7a7a7a7aL);
        due("two", x.word(0, 2), 45 * 256 + 33);
        due("of the SECOND", x.word(1, 0), 0x617a415a30392e2cL);
        due("of THE TEXT", x.word(2, 3), 0x4142434445464748L);
        due("the last of THE TEXT", x.word(2, 4), 'Z');
    }

    private static void wordNone() {
        MarkedProof x = busy();
        for (int t = 0; t < 3; t++) {
            due("the last", x.word(t, x.count(t) - 1) != 0 ? 1 : 0, 1);
            for (int i : new int[] {x.count(t), -1, 60, 150, 300, MIN, MAX}) {
                due("word(" + t + ", " + i + ")", x.word(t, i), 0);
            }
        }
        for (int t : new int[] {-1, 3, MIN, MAX}) {
            due("word(" + t + ", 0)", x.word(t, 0), 0);
        }
    }

    private static void markNumbers() {
        MarkedProof x = Desk.open("a b c d", "author strike 1 2; author put 4 = x; author change 0 3 = y; author turn 0 1 3; author move 2 3 0; author stet 4;");
        int[][] told = {{1, 2, NONE}, {4, NONE, NONE}, {0, 3, NONE}, {0, 1, 3}, {2, 3, 0}, {4, NONE, NONE}};
        for (int k = 0; k < 6; k++) {
            due("kind of " + k, x.mark(k, 0), k);
            for (int i = 0; i < 3; i++) {
                due("mark(" + k + ", " + (2 + i) + ")", x.mark(k, 2 + i), told[k][i]);
            }
        }
        Desk.first(x, "a b c d");
        Desk.marks(x, "reader put 3 = x;");
        due("nothing is left of older ones", x.mark(0, 2) * 100 + x.mark(0, 3) * 10 + x.mark(0, 4), 289);
    }

    private static void markWords() {
        MarkedProof x = Desk.open("a b c d", "author strike 1 2; author put 4 = x; author change 0 3 = y y y y y y; author turn 0 1 3; author move 2 3 0;"
            + "author stet 4;");
        int[] told = {0, 1, 6, 0, 0, 0};
        for (int k = 0; k < 6; k++) {
            due("mark(" + k + ", 5)", x.mark(k, 5), told[k]);
        }
        Desk.marks(x, "author put 0 = a b c*");
        Desk.marks(x, "author put 0 = z;");
        due("nothing is left of a text with a FAULT", x.mark(6, 5), 1);
    }

    private static void markStates() {
        MarkedProof x = busy();
        int[] told = {0, 1, 3, 2, 4, 0, 2, 0};
        for (int k = 0; k < 8; k++) {
            due("mark(" + k + ", 6)", x.mark(k, 6), told[k]);
        }
    }

    private static void markCauses() {
        MarkedProof x = busy();
        int[] told = {NONE, 0, NONE, 4, NONE, NONE, NONE, NONE};
        for (int k = 0; k < 8; k++) {
            due("mark(" + k + ", 7)", x.mark(k, 7), told[k]);
        }
        x.end(0);
        Desk.marks(x, "author stet 1; author stet 6; author stet 2;");
        due("VOID now, no more OVERRULED", x.mark(1, 7), 8);
        due("a QUERY answered no", x.mark(6, 7), NONE);
        due("a QUERY that waited", x.mark(2, 7), 10);
    }

    private static void markError() {
        MarkedProof x = Desk.open("a b", "author strike 0 0; printer strike 1 1; author stet 0;");
        for (int k = 0; k < 3; k++) {
            due("mark(" + k + ", 8)", x.mark(k, 8), 0);
        }
        x.error(0, true);
        due("told", x.mark(0, 8), 1);
        due("not told, though the printer's", x.mark(1, 8), 0);
        x.error(0, false);
        due("told not to be", x.mark(0, 8), 0);
    }

    private static void markCutWords() {
        MarkedProof x = Desk.open("", "author put 0 = a ab abc abcd abcde abcdefgh;");
        int[] told = {0x61, 0x6162, 0x616263, 0x61626364, 0x62636465, 0x65666768};
        for (int i = 0; i < 6; i++) {
            due("mark(0, " + (10 + i) + ")", x.mark(0, 10 + i), told[i]);
            due("as word()", x.mark(0, 10 + i), (int) x.word(2, i));
        }
        due("no 7th", x.mark(0, 16), -9);
    }

    private static void markNone() {
        MarkedProof x = busy();
        for (int k : new int[] {-1, 8, 39, 40, MIN, MAX}) {
            for (int what = 0; what <= 16; what++) {
                due("mark(" + k + ", " + what + ")", x.mark(k, what), -9);
            }
        }
        for (int what : new int[] {-1, 9, 12, 16, 17, 100, MIN, MIN + 10, MAX}) {
            due("mark(5, " + what + ")", x.mark(5, what), -9);
        }
        due("the last WORD", x.mark(5, 11), 's');
        due("a STRIKE's WORD", x.mark(0, 10), -9);
        due("a STET's WORD", x.mark(4, 10), -9);
        due("of a new object", new MarkedProof().mark(0, 0), -9);
    }

    private static void answerRange() {
        MarkedProof x = busy();
        for (int k : new int[] {-1, 8, 39, 40, MIN, MAX}) {
            dueRefused("answer(" + k + ", true)", x, RANGE, y -> y.answer(k, true));
            dueRefused("answer(" + k + ", false)", x, RANGE, y -> y.answer(k, false));
        }
        due("of a new object", new MarkedProof().answer(0, true), RANGE);
    }

    private static void answerState() {
        MarkedProof x = busy();
        for (int k : new int[] {0, 1, 3, 4, 5, 6, 7}) {
            dueRefused("answer(" + k + ", true)", x, STATE, y -> y.answer(k, true));
            dueRefused("answer(" + k + ", false)", x, STATE, y -> y.answer(k, false));
        }
        due("the one that WAITS", x.answer(2, true), 1);
        dueRefused("now it doesn't", x, STATE, y -> y.answer(2, true));
        dueRefused("now it doesn't", x, STATE, y -> y.answer(2, false));
    }

    private static void rankWas() {
        MarkedProof x = new MarkedProof();
        for (int hand = 0; hand < 3; hand++) {
            int was = hand;
            for (int rank = 9; rank >= 0; rank--) {
                due("rank(" + hand + ", " + rank + ")", x.rank(hand, rank), was);
                was = rank;
            }
            due("the same again", x.rank(hand, 0), 0);
            due("told", x.count(10 + hand), 0);
        }
    }

    private static void rankRange() {
        MarkedProof x = busy();
        for (int hand : new int[] {-1, 3, MIN, MAX}) {
            dueRefused("rank(" + hand + ", 0)", x, RANGE, y -> y.rank(hand, 0));
        }
        for (int rank : new int[] {-1, 10, MIN, MAX}) {
            for (int hand = 0; hand < 3; hand++) {
                int h = hand;
                dueRefused("rank(" + hand + ", " + rank + ")", x, RANGE, y -> y.rank(h, rank));
            }
        }
    }

    private static void meetWhatever() {
        MarkedProof x = Desk.open("a b c", "author strike 0 1; author strike 1 2; author ? strike 1 1; author strike 0 2; author stet 3; author put 0 = x;");
        due("DONE and OVERRULED", x.meet(0, 1), 1);
        due("with one that WAITS", x.meet(0, 2) + x.meet(2, 1), 2);
        due("with one that is VOID", x.meet(3, 0) + x.meet(2, 3), 2);
        due("not all", x.meet(5, 0) + x.meet(5, 1) + x.meet(5, 2) + x.meet(5, 3), 0);
        x.answer(2, false);
        due("answered no", x.meet(0, 2), 1);
    }

    private static void dueRangeOfTwo(boolean isMeet) {
        MarkedProof x = busy();
        int[] wrong = {-1, 8, 39, 40, 4, MIN, MAX};
        for (int k : wrong) {
            for (int o = 0; o < 8; o++) {
                due(k + ", " + o, isMeet ? x.meet(k, o) : x.within(k, o), RANGE);
                due(o + ", " + k, isMeet ? x.meet(o, k) : x.within(o, k), RANGE);
            }
            due(k + ", " + k, isMeet ? x.meet(k, k) : x.within(k, k), RANGE);
        }
        for (int k = 0; k < 8; k++) {
            due("the same " + k, isMeet ? x.meet(k, k) : x.within(k, k), RANGE);
        }
        due("the last that is", (isMeet ? x.meet(7, 0) : x.within(7, 0)), 0);
    }

    private static void withinOneWay() {
        MarkedProof x = Desk.open("a b c d", "author move 1 2 0; reader strike 1 2; author ? put 2 = x; reader turn 0 1 3; author stet 0;");
        due("in a VOID one", x.within(1, 0), 1);
        due("not the other way", x.within(0, 1), 0);
        due("one that WAITS", x.within(2, 0), 1);
        due("not the other way", x.within(0, 2), 0);
        due("in a part of the TURN", x.within(1, 3), 1);
        due("its GAP is not", x.within(0, 3), 0);
    }

    private static void costsTaken() {
        for (int change = 1; change <= 9; change++) {
            for (int miss = 1; miss <= 9; miss++) {
                MarkedProof x = Desk.open("a", "author put 0 = x y z w v u;");
                Desk.second(x, "a b");
                due("costs(" + change + ", " + miss + ")", x.costs(change, miss), 1);
                due("held by them", x.hold(), change + Math.min(6 * change, miss));
            }
        }
    }

    private static void costsRange() {
        MarkedProof x = busy();
        x.costs(7, 6);
        int cost = x.hold();
        for (int wrong : new int[] {0, -1, 10, MIN, MAX}) {
            dueRefused("costs(" + wrong + ", 1)", x, RANGE, y -> y.costs(wrong, 1));
            due("as they were", x.hold(), cost);
            dueRefused("costs(1, " + wrong + ")", x, RANGE, y -> y.costs(1, wrong));
            due("as they were", x.hold(), cost);
            dueRefused("costs(" + wrong + ", " + wrong + ")", x, RANGE, y -> y.costs(wrong, wrong));
        }
    }

    private static void holdCosts() {
        MarkedProof x = new MarkedProof();
        due("of nothing", x.hold(), 0);
        Desk.second(x, "a b");
        due("two put in", x.hold(), 4);
        Desk.marks(x, "author put 0 = a b;");
        due("as asked", x.hold(), 0);
        Desk.second(x, "");
        due("a miss", x.hold(), 3);
        x.costs(1, 9);
        due("two struck", x.hold(), 2);
    }

    private static void holdFull() {
        MarkedProof x = Desk.open("a", "author put 0 = x;".repeat(8));
        due("eight", x.hold(), 18);
        Desk.marks(x, "author ? put 0 = x; author strike 0 0; author strike 0 0; author stet 9; author stet 10;");
        due("eight, and those that aren't DONE", x.hold(), 18);
        x.answer(8, true);
        dueRefused("nine", x, FULL, MarkedProof::hold);
        Desk.marks(x, "author stet 0;");
        due("eight again", x.hold(), 18);
        MarkedProof y = Desk.open("a", "author put 0 = x;".repeat(40));
        dueRefused("forty", y, FULL, MarkedProof::hold);
        due("none was held", y.held(0), NONE);
    }

    private static void heldOfLatest() {
        MarkedProof x = Desk.open("a b", "author strike 0 0; author put 2 = c;");
        x.costs(9, 1);
        Desk.second(x, "a b c");
        due("hold", x.hold(), 1);
        due("the set", x.held(0) * 100 + x.held(1) * 10 + x.held(10), 110);
        Desk.marks(x, "author stet 0;" + "author put 0 = x;".repeat(8));
        due("FULL", x.hold(), FULL);
        due("as it was", x.held(0) * 100 + x.held(1) * 10 + x.held(10), 110);
        x.costs(1, 1);
        due("costs leave it", x.held(0) * 100 + x.held(1) * 10 + x.held(10), 110);
        Desk.second(x, "q");
        due("a text leaves it", x.held(0) * 100 + x.held(1) * 10 + x.held(10), 110);
        Desk.first(x, "q");
        due("a proof leaves it", x.held(0) * 100 + x.held(1) * 10 + x.held(10), 110);
        x.next();
        due("next() leaves it", x.held(0) * 100 + x.held(1) * 10 + x.held(10), 110);
        due("a later hold()", x.hold(), 1);
        due("it is told then", x.held(0) * 100 + x.held(1) * 10 + x.held(2), 1);
        due("none is MISSED", x.held(10), NONE);
    }

    private static void heldNone() {
        MarkedProof x = new MarkedProof();
        for (int what = -1; what < 20; what++) {
            due("ahead of any: held(" + what + ")", x.held(what), NONE);
        }
        MarkedProof y = Desk.open("", "author put 0 = x;".repeat(8));
        y.costs(9, 1);
        due("all MISSED", y.hold(), 8);
        for (int i = 0; i < 8; i++) {
            due("held(" + (10 + i) + ")", y.held(10 + i), i);
        }
        for (int what : new int[] {-1, 3, 4, 9, 18, 19, 50, MIN, MIN + 10, MAX}) {
            due("held(" + what + ")", y.held(what), NONE);
        }
    }

    private static void unaskedOfLatest() {
        MarkedProof x = Desk.open("a b", "");
        Desk.second(x, "a c");
        x.hold();
        due("a change", x.unasked(0, 0) * 100 + x.unasked(0, 1) * 10 + x.unasked(0, 2), 11);
        Desk.marks(x, "author put 0 = x;".repeat(9));
        due("FULL", x.hold(), FULL);
        due("as it was", x.unasked(0, 0) * 100 + x.unasked(0, 1) * 10 + x.unasked(0, 2), 11);
        Desk.second(x, "");
        Desk.first(x, "");
        due("whatever is read", x.unasked(0, 0) * 100 + x.unasked(0, 1) * 10 + x.unasked(0, 2), 11);
        x.hold();
        due("a later one finds none", x.unasked(0, 0), NONE);
    }

    private static void unaskedPlaces() {
        MarkedProof x = Desk.open("a b c d e", "");
        Desk.second(x, "p a b d e q");
        x.hold();
        int[] told = {2, 0, 0, 1, 2, 3, 2, 5, 5};
        for (int i = 0; i < told.length; i++) {
            due("unasked(" + i / 3 + ", " + i % 3 + ")", x.unasked(i / 3, i % 3), told[i]);
        }
        Desk.second(x, "a b");
        x.hold();
        due("the last struck ones: behind all", x.unasked(0, 2) * 100 + x.unasked(1, 2) * 10 + x.unasked(2, 2), 222);
        Desk.first(x, "");
        x.hold();
        due("put ones into nothing", x.unasked(0, 1) * 10 + x.unasked(1, 1), 0);
    }

    private static void unaskedNone() {
        MarkedProof x = new MarkedProof();
        due("ahead of any hold()", x.unasked(0, 0), NONE);
        Desk.second(x, "a b");
        x.hold();
        due("the last", x.unasked(1, 0), 2);
        for (int i : new int[] {-1, 2, 3, 149, 150, 151, MIN, MAX}) {
            for (int what = 0; what < 3; what++) {
                due("unasked(" + i + ", " + what + ")", x.unasked(i, what), NONE);
            }
        }
        for (int what : new int[] {-1, 3, 4, 10, MIN, MAX}) {
            due("unasked(0, " + what + ")", x.unasked(0, what), NONE);
        }
    }

    private static void distanceOfTexts() {
        MarkedProof x = Desk.open("a b c", "author strike 0 0; author put 3 = d;");
        Desk.second(x, "b c d e");
        int[][] told = {{0, 3, 2}, {3, 0, 1}, {2, 1, 0}};
        for (int t = 0; t < 3; t++) {
            for (int u = 0; u < 3; u++) {
                due("distance(" + t + ", " + u + ")", x.distance(t, u), told[t][u]);
            }
        }
        Desk.marks(x, "author put 0 = z;".repeat(9));
        due("whatever hold() says", x.hold(), FULL);
        due("nine more", x.distance(0, 2), 10);
    }

    private static void distanceRange() {
        MarkedProof x = busy();
        for (int wrong : new int[] {-1, 3, MIN, MAX}) {
            for (int t = 0; t < 3; t++) {
                due("distance(" + wrong + ", " + t + ")", x.distance(wrong, t), RANGE);
                due("distance(" + t + ", " + wrong + ")", x.distance(t, wrong), RANGE);
            }
            due("distance(" + wrong + ", " + wrong + ")", x.distance(wrong, wrong), RANGE);
        }
    }

    private static void nextTaken() {
        MarkedProof x = busy();
        x.rank(2, 5);
        x.price(4, 44);
        int bytes = x.count(9);
        due("WORDS", x.next(), 8);
        DESK.due("the FIRST one", Desk.text(x, 0), "b x c r s t y f");
        DESK.due("THE TEXT", Desk.text(x, 2), "b x c r s t y f");
        due("no MARKS", x.count(3), 0);
        due("no MARK 0", x.mark(0, 6), -9);
        due("an empty SECOND one", x.count(1), 0);
        due("no WORD of it", x.word(1, 0), 0);
        due("RANKS stay", x.count(12), 5);
        due("prices stay", x.price(4, 12), 44);
        due("THE TAPE stays", x.count(9), bytes);
        due("costs stay", x.hold(), 40);
        x.end(0);
        dueFreshMarks(x);
        due("THE TEXT", x.count(2), 16);
    }

    private static void nextState() {
        MarkedProof x = Desk.open("a b", "author strike 0 0;");
        dueRefused("none", x, STATE, MarkedProof::next);
        Desk.second(x, "a ".repeat(61));
        dueRefused("61", x, STATE, MarkedProof::next);
        Desk.second(x, "a ".repeat(150));
        dueRefused("150", x, STATE, MarkedProof::next);
        Desk.second(x, "");
        dueRefused("none again", x, STATE, MarkedProof::next);
        Desk.second(x, "a ".repeat(60));
        due("60", x.next(), 60);
        dueRefused("none behind it", x, STATE, MarkedProof::next);
        Desk.second(x, "z");
        due("1", x.next(), 1);
    }

    private static void errorWas() {
        MarkedProof x = busy();
        for (int k : new int[] {0, 2, 3, 5, 6, 7}) {
            due("told not to be, it wasn't " + k, x.error(k, false), 0);
            due("told to be " + k, x.error(k, true), 1);
            due("it was " + k, x.error(k, true), 0);
            due("what 8 of " + k, x.mark(k, 8), 1);
            due("told not to be " + k, x.error(k, false), 1);
            due("it wasn't " + k, x.error(k, false), 0);
            due("what 8 of " + k, x.mark(k, 8), 0);
        }
        due("an OVERRULED one that was told before", x.error(1, true), 0);
    }

    private static void errorRange() {
        MarkedProof x = busy();
        for (int k : new int[] {-1, 4, 8, 39, 40, MIN, MAX}) {
            dueRefused("error(" + k + ", true)", x, RANGE, y -> y.error(k, true));
            dueRefused("error(" + k + ", false)", x, RANGE, y -> y.error(k, false));
        }
    }

    private static void priceWas() {
        MarkedProof x = new MarkedProof();
        int[] was = {5, 10, 10, 8, 12};
        for (int kind = 0; kind < 5; kind++) {
            due("price(" + kind + ", 0)", x.price(kind, 0), was[kind]);
            due("price(" + kind + ", 999)", x.price(kind, 999), 0);
            due("price(" + kind + ", 1)", x.price(kind, 1), 999);
            due("price(" + kind + ", 998)", x.price(kind, 998), 1);
        }
        for (int kind = 0; kind < 5; kind++) {
            due("each by itself", x.price(kind, kind), 998);
        }
        due("another object has its own", new MarkedProof().price(0, 0), 5);
    }

    private static void priceRange() {
        MarkedProof x = busy();
        for (int kind : new int[] {-1, 5, 6, MIN, MAX}) {
            dueRefused("price(" + kind + ", 1)", x, RANGE, y -> y.price(kind, 1));
        }
        for (int pence : new int[] {-1, 1000, MIN, MAX}) {
            for (int kind = 0; kind < 5; kind++) {
                int k = kind;
                dueRefused("price(" + kind + ", " + pence + ")", x, RANGE, y -> y.price(k, pence));
            }
        }
        due("as it was", x.price(3, 8), 8);
    }

    private static void paysFor() {
        MarkedProof x = busy();
        due("the author", x.pays(0), 5);
        due("the printer", x.pays(1), 20);
        x.error(0, true);
        due("the author", x.pays(0), 0);
        due("the printer", x.pays(1), 25);
        x.rank(1, 0);
        x.rank(0, 1);
        due("the reader's is DONE now, and was told to be an ERROR", x.pays(0) * 100 + x.pays(1), 25);
        x.error(1, false);
        due("the author pays for the reader's", x.pays(0) * 100 + x.pays(1), 520);
    }

    private static void paysRange() {
        MarkedProof x = busy();
        for (int whom : new int[] {-1, 2, 3, MIN, MAX}) {
            due("pays(" + whom + ")", x.pays(whom), RANGE);
        }
    }

    private static void counts() {
        MarkedProof x = busy();
        int[] told = {6, 8, 7, 8, 4, 3, 1, 2, 1, 16};
        for (int what = 0; what < told.length; what++) {
            due("count(" + what + ")", x.count(what), told[what]);
        }
        DESK.due("THE TEXT", Desk.text(x, 2), "b c r s t e f");
    }

    private static void countRanks() {
        MarkedProof x = new MarkedProof();
        x.rank(0, 9);
        x.rank(1, 8);
        x.rank(2, 7);
        for (int h = 0; h < 3; h++) {
            due("count(" + (10 + h) + ")", x.count(10 + h), 9 - h);
        }
    }

    private static void countNone() {
        MarkedProof x = busy();
        for (int what : new int[] {-1, 13, 14, 20, 100, MIN, MAX}) {
            due("count(" + what + ")", x.count(what), NONE);
        }
    }
}
