import java.util.Random;

/** No call may throw or fail to end, for any arguments in any state: wild runs of 512 calls each, from fixed seeds. */
public final class WildTests {
    private static final int[] EDGES = {Integer.MIN_VALUE, -10, -1, 0, 1, 2, 3, 5, 8, 9, 10, 11, 17, 39, 40, 41, 59, 60, 61, 149, 150, 151,
        299, 300, 301, 999, 1000, 1980, 2000, 2001, Integer.MAX_VALUE - 9, Integer.MAX_VALUE};
    private static final String[] TOKENS = {"author ", "reader ", "printer ", "? ", "strike ", "put ", "change ", "turn ", "move ", "stet ",
        "0 ", "1 ", "2 ", "3 ", "59 ", "60 ", "999 ", "0000 ", "= ", "a ", "abcdefgh ", "abcdefghi ", ";", "; ", "\n", "*", " ",
        "author strike 0 0;", "reader put 1 = x y z;", "printer move 1 1 0;", "author turn 0 1 2;", "author ? change 0 1 = w;"};

    public static void main(String[] args) {
        Desk desk = new Desk();
        for (int seed = 0; seed < 400; seed++) {
            Random dice = new Random(seed);
            MarkedProof x = new MarkedProof();
            for (int i = 0; i < 512; i++) {
                call(x, dice);
            }
            desk.due("THE TEXT of run " + seed + " has room", x.count(2) >= 0 && x.count(2) <= 300 ? 1 : 0, 1);
        }
        desk.close();
    }

    private static int edge(Random dice) {
        return EDGES[dice.nextInt(EDGES.length)];
    }

    private static void tape(MarkedProof x, Random dice) {
        StringBuilder text = new StringBuilder();
        int tokens = dice.nextInt(30);
        for (int i = 0; i < tokens; i++) {
            text.append(TOKENS[dice.nextInt(TOKENS.length)]);
        }
        Desk.tape(x, text.toString());
    }

    private static long call(MarkedProof x, Random dice) {
        int a = edge(dice);
        int b = edge(dice);
        switch (dice.nextInt(26)) {
            case 0: return x.feed(a, b, dice.nextInt(), dice.nextInt(), dice.nextInt());
            case 1: return x.end(a);
            case 2: return Desk.first(x, "a b c d e f g h");
            case 3: return x.second();
            case 4: return x.marks();
            case 5: return x.fault(a);
            case 6: return x.word(dice.nextInt(3), a) + x.word(a, b);
            case 7: return x.mark(a, b) + x.mark(dice.nextInt(9), b);
            case 8: return x.answer(a, dice.nextBoolean()) + x.answer(dice.nextInt(9), dice.nextBoolean());
            case 9: return x.rank(dice.nextInt(3), a) + x.rank(a, b);
            case 10: return x.meet(a, b) + x.meet(dice.nextInt(9), dice.nextInt(9));
            case 11: return x.within(a, b) + x.within(dice.nextInt(9), dice.nextInt(9));
            case 12: return x.costs(a, b);
            case 13: return x.hold();
            case 14: return x.held(a);
            case 15: return x.unasked(a, b) + x.unasked(dice.nextInt(9), b);
            case 16: return x.distance(a, b) + x.distance(dice.nextInt(3), dice.nextInt(3));
            case 17: return x.next();
            case 18: return x.error(a, dice.nextBoolean());
            case 19: return x.price(a, b);
            case 20: return x.pays(a);
            case 21: return x.count(a);
            case 22: return x.first();
            default: tape(x, dice); return dice.nextBoolean() ? x.marks() : dice.nextInt(6) == 0 ? x.second() : 0;
        }
    }
}
