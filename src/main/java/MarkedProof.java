/**
 * A desk of proof sheets: a reader's marks on a first proof, the text that they make,
 * a second proof held against it, and who pays. DOC.md tells the promises by number.
 */
public final class MarkedProof {
    public static final int NONE = -1;
    public static final int RANGE = -2;
    public static final int FULL = -3;
    public static final int STATE = -4;

    private static final int NO_SUCH = -9;

    private static final int TAPE_MOST = 2000;
    private static final int FEED_BYTES = 20;
    private static final int FIRST_MOST = 60;
    private static final int SECOND_MOST = 150;
    private static final int MARKS_MOST = 40;
    private static final int MARK_WORDS_MOST = 6;
    private static final int MARK_NUMBERS_MOST = 3;
    /** Every MARK could be a PUT of six WORDS, and no WORD of the proof be struck. */
    private static final int TEXT_MOST = FIRST_MOST + MARKS_MOST * MARK_WORDS_MOST;
    private static final int HOLD_MOST = 8;
    private static final int HELD_TEXT_MOST = FIRST_MOST + HOLD_MOST * MARK_WORDS_MOST;
    /** No DISTANCE is above the longer text, and no text that is HELD is longer than a SECOND PROOF can be. */
    private static final int CHANGES_MOST = SECOND_MOST;
    private static final int WORD_BYTES_MOST = 8;
    private static final int DIGITS_MOST = 3;
    private static final int RANK_MOST = 9;
    private static final int COST_MOST = 9;
    private static final int PENCE_MOST = 999;

    private static final int STRIKE = 0;
    private static final int PUT = 1;
    private static final int CHANGE = 2;
    private static final int TURN = 3;
    private static final int MOVE = 4;
    private static final int STET = 5;

    private static final int HANDS = 3;
    private static final int PRINTER = 2;

    private static final int IS_DONE = 0;
    private static final int IS_OVERRULED = 1;
    private static final int IS_VOID = 2;
    private static final int IS_WAITING = 3;
    private static final int IS_STET = 4;

    private static final int FAULT_SYNTAX = 1;
    private static final int FAULT_RANGE = 2;
    private static final int FAULT_ROOM = 3;

    private static final int CHANGED = 0;
    private static final int STRUCK = 1;
    private static final int PUT_IN = 2;

    /** How many numbers a MARK of each kind tells. */
    private static final int[] NUMBERS = {2, 1, 2, 3, 3, 1};
    private static final int[] FIRST_PRICES = {5, 10, 10, 8, 12};
    private static final String WORD_SIGNS = ".,'!?;:-";

    private final Tape tape;
    private final Fault latest;
    private final Sheet proof;
    private final Sheet revise;
    private final Sheet text;
    private final Pile pile;
    private final SheetReader sheetReader;
    private final MarkReader markReader;
    private final Setter setter;
    private final Ruler ruler;
    private final Holding holding;
    private final Bill bill;

    public MarkedProof() {
        tape = new Tape();
        latest = new Fault();
        proof = new Sheet(FIRST_MOST);
        revise = new Sheet(SECOND_MOST);
        text = new Sheet(TEXT_MOST);
        pile = new Pile();
        sheetReader = new SheetReader();
        markReader = new MarkReader();
        setter = new Setter();
        ruler = new Ruler();
        holding = new Holding();
        bill = new Bill();
    }

    public int feed(int a, int b, int c, int d, int e) {
        if (tape.size + FEED_BYTES > TAPE_MOST) {
            return FULL;
        }
        tape.addFour(a);
        tape.addFour(b);
        tape.addFour(c);
        tape.addFour(d);
        tape.addFour(e);
        return tape.size;
    }

    public int end(int n) {
        if (n < 0 || n > tape.size) {
            return NONE;
        }
        tape.size = n;
        return n;
    }

    // ---- proofs

    public int first() {
        boolean good = sheetReader.readProof(tape, FIRST_MOST, latest);
        tape.size = 0;
        if (!good) {
            return NONE;
        }
        proof.copyFrom(sheetReader.sheet);
        pile.clear();
        settle();
        return proof.size;
    }

    public int second() {
        boolean good = sheetReader.readProof(tape, SECOND_MOST, latest);
        tape.size = 0;
        if (!good) {
            return NONE;
        }
        revise.copyFrom(sheetReader.sheet);
        return revise.size;
    }

    public int marks() {
        boolean good = markReader.readMarks(tape, pile, proof.size, latest);
        tape.size = 0;
        if (!good) {
            return NONE;
        }
        int came = pile.accept();
        settle();
        return came;
    }

    public int fault(int what) {
        if (what == 0) {
            return latest.kind;
        }
        return what == 1 ? latest.place : NONE;
    }

    public long word(int t, int i) {
        Sheet sheet = sheetOf(t);
        return sheet == null ? 0 : sheet.wordAt(i);
    }

    // ---- marks

    public int mark(int k, int what) {
        Mark m = pile.find(k);
        if (m == null) {
            return NO_SUCH;
        }
        return what < 10 ? m.tell(what) : m.tellWord(what - 10);
    }

    public int answer(int k, boolean yes) {
        Mark m = pile.find(k);
        if (m == null) {
            return RANGE;
        }
        if (m.status != IS_WAITING) {
            return STATE;
        }
        m.waits = false;
        m.isVoid = !yes;
        settle();
        return 1;
    }

    public int rank(int hand, int rank) {
        if (hand < 0 || hand >= HANDS || rank < 0 || rank > RANK_MOST) {
            return RANGE;
        }
        int was = pile.rankOf(hand);
        pile.ranks[hand] = rank;
        settle();
        return was;
    }

    public int meet(int k, int o) {
        Mark one = pile.findNoStet(k);
        Mark other = pile.findNoStet(o);
        if (one == null || other == null || k == o) {
            return RANGE;
        }
        return one.meets(other) ? 1 : 0;
    }

    public int within(int k, int o) {
        Mark one = pile.findNoStet(k);
        Mark other = pile.findNoStet(o);
        if (one == null || other == null || k == o) {
            return RANGE;
        }
        return one.isWithin(other) ? 1 : 0;
    }

    // ---- the second proof

    public int costs(int change, int miss) {
        if (change < 1 || change > COST_MOST || miss < 1 || miss > COST_MOST) {
            return RANGE;
        }
        holding.changeCost = change;
        holding.missCost = miss;
        return 1;
    }

    public int hold() {
        if (pile.doneCount > HOLD_MOST) {
            return FULL;
        }
        return holding.weigh(pile, proof, revise, setter, ruler);
    }

    public int held(int what) {
        return holding.tell(what);
    }

    public int unasked(int i, int what) {
        return holding.tellChange(i, what);
    }

    public int distance(int t, int u) {
        Sheet one = sheetOf(t);
        Sheet other = sheetOf(u);
        if (one == null || other == null) {
            return RANGE;
        }
        return ruler.measure(one, 0, other, 0, TEXT_MOST);
    }

    public int next() {
        if (revise.size == 0 || revise.size > FIRST_MOST) {
            return STATE;
        }
        proof.copyFrom(revise);
        revise.clear();
        pile.clear();
        settle();
        return proof.size;
    }

    // ---- who pays

    public int error(int k, boolean is) {
        Mark m = pile.findNoStet(k);
        if (m == null) {
            return RANGE;
        }
        boolean was = m.isError;
        m.isError = is;
        return was == is ? 0 : 1;
    }

    public int price(int kind, int pence) {
        if (kind < 0 || kind >= STET || pence < 0 || pence > PENCE_MOST) {
            return RANGE;
        }
        return bill.setPrice(kind, pence);
    }

    public int pays(int whom) {
        if (whom != 0 && whom != 1) {
            return RANGE;
        }
        return bill.sum(pile, whom == 1);
    }

    public int count(int what) {
        switch (what) {
            case 0:
            case 1:
            case 2:
                return sizeOf(what);
            case 3:
                return pile.size;
            case 4:
                return pile.tally(IS_DONE) + pile.tally(IS_OVERRULED);
            case 5:
                return pile.tally(IS_DONE);
            case 6:
                return pile.tally(IS_OVERRULED);
            case 7:
                return pile.tally(IS_VOID);
            case 8:
                return pile.tally(IS_WAITING);
            case 9:
                return tape.size;
            case 10:
            case 11:
            case 12:
                return pile.rankOf(what - 10);
            default:
                return NONE;
        }
    }

    private Sheet sheetOf(int t) {
        switch (t) {
            case 0:
                return proof;
            case 1:
                return revise;
            case 2:
                return text;
            default:
                return null;
        }
    }

    private int sizeOf(int t) {
        Sheet sheet = sheetOf(t);
        return sheet == null ? NONE : sheet.size;
    }

    /** Whatever the DONE ones hang on has changed: they and THE TEXT are told anew. */
    private void settle() {
        pile.decide();
        setter.takeDone(pile, 0);
        setter.make(proof, text);
    }

    private static boolean isBlank(int b) {
        return b == 32 || b == 10;
    }

    private static boolean isSmall(int b) {
        return b >= 'a' && b <= 'z';
    }

    private static boolean isDigit(int b) {
        return b >= '0' && b <= '9';
    }

    private static boolean isOfWord(int b) {
        if (isSmall(b) || isDigit(b) || b >= 'A' && b <= 'Z') {
            return true;
        }
        return b > 0 && b < 128 && WORD_SIGNS.indexOf((char) b) >= 0;
    }

    /** Bytes that wait to be read. */
    private static final class Tape {
        private final byte[] bytes = new byte[TAPE_MOST];
        private int size;

        void addFour(int four) {
            for (int shift = 24; shift >= 0; shift -= 8) {
                if (size >= 0 && size < bytes.length) {
                    bytes[size] = (byte) (four >>> shift);
                    size++;
                }
            }
        }

        int byteAt(int i) {
            return i < 0 || i >= size || i >= bytes.length ? NONE : bytes[i] & 255;
        }
    }

    /** What was wrong with the latest text. */
    private static final class Fault {
        private int kind = 0;
        private int place = NONE;

        void clear() {
            kind = 0;
            place = NONE;
        }

        /** Answers false, so that a reader can leave off with it in one line. */
        boolean tellOf(int faultKind, int faultPlace) {
            kind = faultKind;
            place = faultPlace;
            return false;
        }
    }

    /** A row of WORDS, each kept as the number that word() tells. */
    private static final class Sheet {
        private final long[] words;
        private int size;

        Sheet(int most) {
            words = new long[most < 0 ? 0 : most];
        }

        void clear() {
            size = 0;
        }

        void add(long word) {
            if (size >= 0 && size < words.length) {
                words[size] = word;
                size++;
            }
        }

        void addAll(Sheet other) {
            for (int i = 0; i < other.size; i++) {
                add(other.wordAt(i));
            }
        }

        void copyFrom(Sheet other) {
            clear();
            addAll(other);
        }

        long wordAt(int i) {
            return i < 0 || i >= size || i >= words.length ? 0 : words[i];
        }
    }

    /** Reads a proof's text into a sheet of its own, so that a FAULT leaves the proof as it was. */
    private static final class SheetReader {
        private final Sheet sheet = new Sheet(SECOND_MOST);

        boolean readProof(Tape tape, int most, Fault fault) {
            sheet.clear();
            fault.clear();
            long word = 0;
            int length = 0;
            for (int i = 0; i < tape.size; i++) {
                int b = tape.byteAt(i);
                if (isBlank(b)) {
                    addWord(word, length);
                    word = 0;
                    length = 0;
                    continue;
                }
                if (!isOfWord(b) || length == WORD_BYTES_MOST) {
                    return fault.tellOf(FAULT_SYNTAX, i);
                }
                if (length == 0 && sheet.size >= most) {
                    return fault.tellOf(FAULT_ROOM, i);
                }
                word = word << 8 | b;
                length++;
            }
            addWord(word, length);
            return true;
        }

        private void addWord(long word, int length) {
            if (length > 0) {
                sheet.add(word);
            }
        }
    }

    /** One MARK as it was told, and what has become of it. */
    private static final class Mark {
        private final int[] numbers = new int[MARK_NUMBERS_MOST];
        private final Sheet words = new Sheet(MARK_WORDS_MOST);
        private int kind;
        private int hand;
        /** Its row of WORDS; without one upTo is below from. */
        private int from;
        private int upTo;
        private int gap;
        private boolean waits;
        private boolean isVoid;
        private boolean isError;
        private int voidBy;
        private int status;
        private int overruledBy;

        void clear() {
            for (int i = 0; i < numbers.length; i++) {
                numbers[i] = NONE;
            }
            words.clear();
            kind = STRIKE;
            hand = 0;
            waits = false;
            isVoid = false;
            isError = false;
            voidBy = NONE;
            status = IS_DONE;
            overruledBy = NONE;
        }

        int number(int i) {
            return i < 0 || i >= numbers.length ? NONE : numbers[i];
        }

        void setNumber(int i, int n) {
            if (i >= 0 && i < numbers.length) {
                numbers[i] = n;
            }
        }

        /** What the numbers tell is asked for over and over, so it is looked up once, when all are there. */
        void place() {
            boolean tellsRow = kind != PUT && kind != STET;
            from = tellsRow ? number(0) : 0;
            upTo = tellsRow ? number(kind == TURN ? 2 : 1) : NONE;
            gap = NONE;
            if (kind == PUT || kind == MOVE) {
                gap = number(kind == PUT ? 0 : 2);
            }
        }

        private boolean fitsInside(int first, int last) {
            if (gap != NONE && (gap <= first || gap > last)) {
                return false;
            }
            return upTo < from || from >= first && upTo <= last;
        }

        boolean isWithin(Mark other) {
            if (other.kind == MOVE) {
                return fitsInside(other.from, other.upTo);
            }
            if (other.kind != TURN) {
                return false;
            }
            int middle = other.number(1);
            return fitsInside(other.from, middle - 1) || fitsInside(middle, other.upTo);
        }

        boolean meets(Mark other) {
            if (isWithin(other) || other.isWithin(this)) {
                return false;
            }
            return from <= other.upTo && other.from <= upTo
                || gap > other.from && gap <= other.upTo
                || other.gap > from && other.gap <= upTo;
        }

        /** The first cause is the one that is told, whatever STETS come behind it. */
        void voidByStet(int stet) {
            if (!isVoid) {
                isVoid = true;
                voidBy = stet;
            }
        }

        boolean asks() {
            return kind != STET && !isVoid && !waits;
        }

        /** One that ASKS is not yet among the DONE ones, whatever it was before. */
        int undecidedStatus() {
            if (kind == STET) {
                return IS_STET;
            }
            if (isVoid) {
                return IS_VOID;
            }
            return waits ? IS_WAITING : IS_OVERRULED;
        }

        int tell(int what) {
            switch (what) {
                case 0:
                    return kind;
                case 1:
                    return hand;
                case 2:
                case 3:
                case 4:
                    return number(what - 2);
                case 5:
                    return words.size;
                case 6:
                    return status;
                case 7:
                    return causer();
                case 8:
                    return isError ? 1 : 0;
                default:
                    return NO_SUCH;
            }
        }

        private int causer() {
            if (status == IS_OVERRULED) {
                return overruledBy;
            }
            return status == IS_VOID ? voidBy : NONE;
        }

        int tellWord(int i) {
            return i < 0 || i >= words.size ? NO_SUCH : (int) words.wordAt(i);
        }
    }

    /** The MARKS by number, behind them those that a text is still bringing, and the RANKS of the HANDS. */
    private static final class Pile {
        private final Mark[] marks = new Mark[MARKS_MOST];
        private final int[] ranks = new int[HANDS];
        private final int[] done = new int[MARKS_MOST];
        private int size;
        private int coming;
        private int doneCount;

        Pile() {
            for (int i = 0; i < MARKS_MOST; i++) {
                marks[i] = new Mark();
            }
            for (int h = 0; h < HANDS; h++) {
                ranks[h] = h;
            }
        }

        void clear() {
            size = 0;
            coming = 0;
            doneCount = 0;
        }

        int rankOf(int hand) {
            return hand < 0 || hand >= ranks.length ? NONE : ranks[hand];
        }

        private Mark markAt(int k) {
            return k < 0 || k >= marks.length ? null : marks[k];
        }

        Mark find(int k) {
            return k >= size ? null : markAt(k);
        }

        Mark findNoStet(int k) {
            Mark m = find(k);
            return m == null || m.kind == STET ? null : m;
        }

        /** The MARK that the line now read will be; null when there is no room for it. */
        Mark blank() {
            Mark m = markAt(size + coming);
            if (m != null) {
                m.clear();
            }
            return m;
        }

        boolean canBeStet(int k) {
            Mark m = k >= size + coming ? null : markAt(k);
            return m != null && m.kind != STET;
        }

        /** The text was without a FAULT: what was coming has come. */
        int accept() {
            int came = coming;
            size += coming;
            coming = 0;
            for (int k = size - came; k < size; k++) {
                Mark stet = find(k);
                if (stet == null || stet.kind != STET) {
                    continue;
                }
                Mark told = find(stet.number(0));
                if (told != null) {
                    told.voidByStet(k);
                }
            }
            return came;
        }

        void decide() {
            for (int k = 0; k < size; k++) {
                Mark m = find(k);
                if (m != null) {
                    m.overruledBy = NONE;
                    m.status = m.undecidedStatus();
                }
            }
            for (int rank = 0; rank <= RANK_MOST; rank++) {
                for (int k = 0; k < size; k++) {
                    Mark m = find(k);
                    if (m != null && m.asks() && rankOf(m.hand) == rank) {
                        m.overruledBy = firstDoneThatMeets(m);
                        m.status = m.overruledBy == NONE ? IS_DONE : IS_OVERRULED;
                    }
                }
            }
            listDone();
        }

        private int firstDoneThatMeets(Mark m) {
            for (int k = 0; k < size; k++) {
                Mark other = find(k);
                if (other != null && other != m && other.status == IS_DONE && m.meets(other)) {
                    return k;
                }
            }
            return NONE;
        }

        private void listDone() {
            doneCount = 0;
            for (int k = 0; k < size; k++) {
                Mark m = find(k);
                if (m != null && m.status == IS_DONE && doneCount < done.length) {
                    done[doneCount] = k;
                    doneCount++;
                }
            }
        }

        /** The number of the i-th DONE MARK. */
        int doneNumber(int i) {
            return i < 0 || i >= doneCount || i >= done.length ? NONE : done[i];
        }

        int tally(int status) {
            int n = 0;
            for (int k = 0; k < size; k++) {
                Mark m = find(k);
                if (m != null && m.status == status) {
                    n++;
                }
            }
            return n;
        }
    }

    /** Reads a text of MARKS, TOKEN by TOKEN, up to its first FAULT. */
    private static final class MarkReader {
        private static final int ONE_BYTE = 0;
        private static final int LETTERS = 1;
        private static final int DIGITS = 2;

        private Tape tape;
        private Pile pile;
        private Fault fault;
        private int proofSize;
        private int at;
        private int start;
        private int sort;

        boolean readMarks(Tape bytes, Pile to, int words, Fault told) {
            tape = bytes;
            pile = to;
            fault = told;
            proofSize = words;
            at = 0;
            fault.clear();
            pile.coming = 0;
            for (int line = 0; line <= MARKS_MOST; line++) {
                readToken();
                if (start >= tape.size) {
                    return true;
                }
                if (!readLine()) {
                    return false;
                }
                pile.coming++;
            }
            return false;
        }

        private boolean readLine() {
            int hand = handNamed();
            if (hand == NONE) {
                return refuse(FAULT_SYNTAX);
            }
            Mark m = pile.blank();
            if (m == null) {
                return refuse(FAULT_ROOM);
            }
            m.hand = hand;
            readToken();
            if (isToken("?")) {
                m.waits = true;
                readToken();
            }
            m.kind = kindNamed();
            if (m.kind == NONE || m.waits && m.kind == STET) {
                return refuse(FAULT_SYNTAX);
            }
            if (!readNumbers(m)) {
                return false;
            }
            m.place();
            readToken();
            if (m.kind == PUT || m.kind == CHANGE) {
                return isToken("=") ? readWords(m) : refuse(FAULT_SYNTAX);
            }
            return isToken(";") || refuse(FAULT_SYNTAX);
        }

        private int handNamed() {
            if (isToken("author")) {
                return 0;
            }
            if (isToken("reader")) {
                return 1;
            }
            return isToken("printer") ? PRINTER : NONE;
        }

        private int kindNamed() {
            if (isToken("strike")) {
                return STRIKE;
            }
            if (isToken("put")) {
                return PUT;
            }
            if (isToken("change")) {
                return CHANGE;
            }
            if (isToken("turn")) {
                return TURN;
            }
            if (isToken("move")) {
                return MOVE;
            }
            return isToken("stet") ? STET : NONE;
        }

        private boolean readNumbers(Mark m) {
            int told = m.kind < 0 || m.kind >= NUMBERS.length ? 0 : NUMBERS[m.kind];
            for (int i = 0; i < told; i++) {
                readToken();
                if (sort != DIGITS || at - start > DIGITS_MOST) {
                    return refuse(FAULT_SYNTAX);
                }
                m.setNumber(i, numberRead());
                if (!mayBegin(m, i)) {
                    return refuse(FAULT_RANGE);
                }
            }
            return true;
        }

        private int numberRead() {
            int n = 0;
            for (int i = start; i < at; i++) {
                n = n * 10 + tape.byteAt(i) - '0';
            }
            return n;
        }

        /** Whether there is a MARK that begins with its numbers up to the i-th. */
        private boolean mayBegin(Mark m, int i) {
            int a = m.number(0);
            int b = m.number(1);
            int c = m.number(2);
            switch (m.kind) {
                case STRIKE:
                case CHANGE:
                    return i == 0 ? a < proofSize : a <= b && b < proofSize;
                case PUT:
                    return a <= proofSize;
                case TURN:
                    if (i == 0) {
                        return a + 1 < proofSize;
                    }
                    return i == 1 ? a < b && b < proofSize : b <= c && c < proofSize;
                case MOVE:
                    return mayBeginMove(a, b, c, i);
                default:
                    return pile.canBeStet(a);
            }
        }

        /** From WORD 0 on a row can go behind itself alone, so WORDS have to be left there. */
        private boolean mayBeginMove(int a, int b, int c, int i) {
            if (i == 0) {
                return a < proofSize && (a > 0 || proofSize > 1);
            }
            if (i == 1) {
                return a <= b && b < proofSize && (a > 0 || b + 1 < proofSize);
            }
            return c < a || c > b + 1 && c <= proofSize;
        }

        private boolean readWords(Mark m) {
            for (int i = 0; i <= MARK_WORDS_MOST + 1; i++) {
                skipBlanks();
                start = at;
                int b = tape.byteAt(at);
                if (b == NONE || b == ';' && i == 0) {
                    return refuse(FAULT_SYNTAX);
                }
                if (b == ';') {
                    at++;
                    return true;
                }
                if (!readWord(m)) {
                    return false;
                }
            }
            return false;
        }

        private boolean readWord(Mark m) {
            long word = 0;
            boolean good = true;
            for (int i = start; i < tape.size; i++) {
                int b = tape.byteAt(i);
                if (isBlank(b) || b == ';') {
                    break;
                }
                good = good && isOfWord(b);
                word = word << 8 | b;
                at = i + 1;
            }
            if (!good || at - start > WORD_BYTES_MOST) {
                return refuse(FAULT_SYNTAX);
            }
            if (m.words.size >= MARK_WORDS_MOST) {
                return refuse(FAULT_ROOM);
            }
            m.words.add(word);
            return true;
        }

        private void skipBlanks() {
            for (int i = at; i < tape.size && isBlank(tape.byteAt(i)); i++) {
                at = i + 1;
            }
        }

        private void readToken() {
            skipBlanks();
            start = at;
            sort = sortOf(tape.byteAt(at));
            if (at < tape.size) {
                at++;
            }
            if (sort == ONE_BYTE) {
                return;
            }
            for (int i = at; i < tape.size && sortOf(tape.byteAt(i)) == sort; i++) {
                at = i + 1;
            }
        }

        /** A byte that is in no TOKEN is taken for one too: no text goes on with it. */
        private static int sortOf(int b) {
            if (isSmall(b)) {
                return LETTERS;
            }
            if (isDigit(b)) {
                return DIGITS;
            }
            return ONE_BYTE;
        }

        private boolean isToken(String name) {
            if (at - start != name.length()) {
                return false;
            }
            for (int i = 0; i < name.length(); i++) {
                if (tape.byteAt(start + i) != name.charAt(i)) {
                    return false;
                }
            }
            return true;
        }

        private boolean refuse(int kind) {
            return fault.tellOf(kind, start);
        }
    }

    /** Makes THE TEXT of a set of MARKS of which no two MEET. */
    private static final class Setter {
        private final Mark[] taken = new Mark[MARKS_MOST];
        /** Those whose row is being set just now, so that they aren't begun again at its first WORD. */
        private final boolean[] open = new boolean[MARKS_MOST];
        private int takenCount;
        private Sheet proof;
        private Sheet into;

        /** Takes the DONE MARKS but for those whose bit is in the set without. */
        void takeDone(Pile pile, int without) {
            takenCount = 0;
            for (int i = 0; i < pile.doneCount; i++) {
                boolean isLeftOut = i < HOLD_MOST && (without >> i & 1) == 1;
                Mark m = pile.find(pile.doneNumber(i));
                if (!isLeftOut && m != null && takenCount < taken.length) {
                    taken[takenCount] = m;
                    open[takenCount] = false;
                    takenCount++;
                }
            }
        }

        void make(Sheet from, Sheet to) {
            proof = from;
            into = to;
            into.clear();
            int last = proof.size;
            if (last > 0) {
                setGap(0, 0);
                setRow(0, last - 1, 0);
            }
            setGap(last, 0);
        }

        /** Each level down has one more MARK open, so there are never more of them than MARKS. */
        private void setRow(int from, int upTo, int depth) {
            if (depth > MARKS_MOST) {
                return;
            }
            int behind = from;
            for (int i = from; i <= upTo; i++) {
                if (i < behind) {
                    continue;
                }
                if (i > from) {
                    setGap(i, depth);
                }
                behind = setPiece(i, depth);
            }
        }

        private void setGap(int g, int depth) {
            for (int k = 0; k < takenCount; k++) {
                Mark m = takenAt(k);
                if (m == null || m.gap != g || isOpen(k)) {
                    continue;
                }
                if (m.kind == PUT) {
                    into.addAll(m.words);
                } else {
                    mind(k, true);
                    setRow(m.from, m.upTo, depth + 1);
                    mind(k, false);
                }
            }
        }

        /** Sets what stands for WORD i, and answers the WORD behind all that it stands for. */
        private int setPiece(int i, int depth) {
            int k = outermostAt(i);
            Mark m = takenAt(k);
            if (m == null) {
                into.add(proof.wordAt(i));
                return i + 1;
            }
            if (m.kind == CHANGE) {
                into.addAll(m.words);
            }
            if (m.kind == TURN) {
                mind(k, true);
                setRow(m.number(1), m.upTo, depth + 1);
                setRow(m.from, m.number(1) - 1, depth + 1);
                mind(k, false);
            }
            return m.upTo + 1;
        }

        /** Of two that begin at one WORD the shorter is WITHIN the longer, and of equal ones the other WITHIN the MOVE. */
        private int outermostAt(int i) {
            int best = NONE;
            int furthest = NONE;
            for (int k = 0; k < takenCount; k++) {
                Mark m = takenAt(k);
                if (m == null || isOpen(k) || m.kind == PUT || m.from != i) {
                    continue;
                }
                if (m.upTo > furthest || m.upTo == furthest && m.kind == MOVE) {
                    best = k;
                    furthest = m.upTo;
                }
            }
            return best;
        }

        private Mark takenAt(int k) {
            return k < 0 || k >= takenCount || k >= taken.length ? null : taken[k];
        }

        private boolean isOpen(int k) {
            return k >= 0 && k < open.length && open[k];
        }

        private void mind(int k, boolean isOpenNow) {
            if (k >= 0 && k < open.length) {
                open[k] = isOpenNow;
            }
        }
    }

    /** Measures the DISTANCE of two texts. */
    private static final class Ruler {
        private final int[] row = new int[TEXT_MOST + 1];

        /**
         * The DISTANCE of one's WORDS from i on and other's from j on; limit + 1 when it is above limit.
         * Places further than limit off the diagonal cost more than limit, so they aren't gone through.
         */
        int measure(Sheet one, int i, Sheet other, int j, int limit) {
            int high = Math.max(0, one.size - i);
            int wide = Math.max(0, other.size - j);
            int tooFar = limit + 1;
            if (Math.abs(high - wide) > limit || wide >= row.length) {
                return tooFar;
            }
            for (int c = 0; c <= wide; c++) {
                row[c] = c;
            }
            for (int r = 1; r <= high; r++) {
                if (fillRow(r, one.wordAt(i + r - 1), other, j, limit) > limit) {
                    return tooFar;
                }
            }
            return Math.min(row[wide], tooFar);
        }

        /** Goes on by one WORD of the one text, and answers the least DISTANCE that stands in the row then. */
        private int fillRow(int r, long word, Sheet other, int j, int limit) {
            int from = Math.max(1, r - limit);
            int upTo = Math.min(other.size - j, r + limit);
            if (from >= row.length || upTo >= row.length) {
                return limit + 1;
            }
            int corner = row[from - 1];
            row[from - 1] = from == 1 ? r : limit + 1;
            int least = row[from - 1];
            for (int c = from; c <= upTo; c++) {
                int above = row[c];
                if (other.wordAt(j + c - 1) == word) {
                    row[c] = corner;
                } else {
                    row[c] = 1 + Math.min(corner, Math.min(above, row[c - 1]));
                }
                corner = above;
                least = Math.min(least, row[c]);
            }
            return least;
        }
    }

    /** The SECOND PROOF HELD against the MARKS, as the latest hold() found it. */
    private static final class Holding {
        /** Above what any set costs. */
        private static final int DEAREST = 100000;

        private final Sheet asked = new Sheet(HELD_TEXT_MOST);
        private final int[] missed = new int[HOLD_MOST];
        private final int[] changeKinds = new int[CHANGES_MOST];
        private final int[] askedPlaces = new int[CHANGES_MOST];
        private final int[] revisePlaces = new int[CHANGES_MOST];
        private int changeCost = 2;
        private int missCost = 3;
        private boolean isHeld;
        private int set;
        private int missedCount;
        private int leastApart;
        private int changeCount;

        int weigh(Pile pile, Sheet proof, Sheet revise, Setter setter, Ruler ruler) {
            int least = DEAREST;
            int fewest = 0;
            int sets = 1 << Math.min(pile.doneCount, HOLD_MOST);
            for (int without = 0; without < sets; without++) {
                int many = Integer.bitCount(without);
                int limit = distanceFor(least - many * missCost);
                if (limit < 0) {
                    continue;
                }
                setter.takeDone(pile, without);
                setter.make(proof, asked);
                int apart = ruler.measure(asked, 0, revise, 0, limit);
                int cost = apart * changeCost + many * missCost;
                if (apart <= limit && (cost < least || cost == least && many < fewest)) {
                    least = cost;
                    fewest = many;
                    set = without;
                    leastApart = apart;
                }
            }
            isHeld = true;
            listMissed(pile);
            setter.takeDone(pile, set);
            setter.make(proof, asked);
            listChanges(revise, ruler);
            return least;
        }

        /** The greatest DISTANCE that can be had for so much; below 0 when none can. */
        private int distanceFor(int cost) {
            if (cost < 0 || changeCost < 1) {
                return NONE;
            }
            return Math.min(TEXT_MOST, cost / changeCost);
        }

        private void listMissed(Pile pile) {
            missedCount = 0;
            for (int i = 0; i < HOLD_MOST; i++) {
                if ((set >> i & 1) == 1 && missedCount < missed.length) {
                    missed[missedCount] = pile.doneNumber(i);
                    missedCount++;
                }
            }
        }

        /** To pass a WORD that is the same always keeps the least, so that needs no measuring. */
        private void listChanges(Sheet revise, Ruler ruler) {
            changeCount = 0;
            int i = 0;
            int j = 0;
            int left = leastApart;
            int steps = asked.size + revise.size;
            for (int step = 0; step < steps && (i < asked.size || j < revise.size); step++) {
                boolean hasBoth = i < asked.size && j < revise.size;
                if (hasBoth && asked.wordAt(i) == revise.wordAt(j)) {
                    i++;
                    j++;
                    continue;
                }
                left--;
                if (hasBoth && ruler.measure(asked, i + 1, revise, j + 1, left) <= left) {
                    note(CHANGED, i, j);
                    i++;
                    j++;
                } else if (i < asked.size && ruler.measure(asked, i + 1, revise, j, left) <= left) {
                    note(STRUCK, i, j);
                    i++;
                } else {
                    note(PUT_IN, i, j);
                    j++;
                }
            }
        }

        private void note(int kind, int i, int j) {
            if (changeCount >= 0 && changeCount < CHANGES_MOST) {
                changeKinds[changeCount] = kind;
                askedPlaces[changeCount] = i;
                revisePlaces[changeCount] = j;
                changeCount++;
            }
        }

        int tell(int what) {
            if (!isHeld) {
                return NONE;
            }
            switch (what) {
                case 0:
                    return set;
                case 1:
                    return missedCount;
                case 2:
                    return leastApart;
                default:
                    return tellMissed(what);
            }
        }

        private int tellMissed(int what) {
            if (what < 10) {
                return NONE;
            }
            int i = what - 10;
            return i >= missedCount || i >= missed.length ? NONE : missed[i];
        }

        int tellChange(int i, int what) {
            if (i < 0 || i >= changeCount || i >= CHANGES_MOST) {
                return NONE;
            }
            switch (what) {
                case 0:
                    return changeKinds[i];
                case 1:
                    return askedPlaces[i];
                case 2:
                    return revisePlaces[i];
                default:
                    return NONE;
            }
        }
    }

    /** The prices of the kinds, and what the DONE MARKS come to. */
    private static final class Bill {
        private final int[] prices = FIRST_PRICES.clone();

        int setPrice(int kind, int pence) {
            int was = priceOf(kind);
            if (kind >= 0 && kind < prices.length) {
                prices[kind] = pence;
            }
            return was;
        }

        private int priceOf(int kind) {
            return kind < 0 || kind >= prices.length ? 0 : prices[kind];
        }

        int sum(Pile pile, boolean isPrinters) {
            int pence = 0;
            for (int i = 0; i < pile.doneCount; i++) {
                Mark m = pile.find(pile.doneNumber(i));
                if (m != null && (m.hand == PRINTER || m.isError) == isPrinters) {
                    pence += priceOf(m.kind);
                }
            }
            return pence;
        }
    }
}
