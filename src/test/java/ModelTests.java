import java.util.Random;

/** Random runs of calls, from fixed seeds, each answer held against the Model's. */
public final class ModelTests {
    private static final String[] HANDS = {"author", "reader", "printer"};
    private static final int[] ODD = {-1, Integer.MIN_VALUE, Integer.MAX_VALUE, 13, 9, 60, 150, 300, 10};

    private final Desk desk;
    private final Random dice;
    private final String name;
    private final MarkedProof x = new MarkedProof();
    private final Model y = new Model();
    /** How far apart the runs are in size: proofs, how many MARKS a text has, how often one is spoilt. */
    private final int proofMost;
    private final int linesMost;
    private final int spoilt;

    private ModelTests(Desk desk, int seed) {
        this.desk = desk;
        dice = new Random(seed);
        name = "run " + seed + " ";
        proofMost = new int[] {4, 8, 14, 25, 64}[seed % 5];
        linesMost = new int[] {3, 5, 8, 12}[seed / 5 % 4];
        spoilt = new int[] {0, 3, 9}[seed / 20 % 3];
    }

    public static void main(String[] args) {
        Desk desk = new Desk();
        int runs = args.length > 0 ? Integer.parseInt(args[0]) : 900;
        int from = args.length > 1 ? Integer.parseInt(args[1]) : 0;
        for (int seed = from; seed < from + runs && !desk.isAbove(20); seed++) {
            new ModelTests(desk, seed).run();
        }
        desk.close();
    }

    private void due(String call, long got, long want) {
        desk.due(name + call, got, want);
    }

    private void run() {
        read(0, proofText(proofMost));
        for (int i = 0; i < 40; i++) {
            step();
        }
        askAll();
    }

    private void step() {
        int roll = dice.nextInt(20);
        if (roll < 1) {
            read(0, proofText(proofMost));
        } else if (roll < 3) {
            read(1, dice.nextBoolean() ? nearText() : proofText(dice.nextInt(9) == 0 ? 160 : proofMost + 6));
        } else if (roll < 8) {
            read(2, marksText());
        } else if (roll < 10) {
            int k = number(y.marks.size());
            boolean yes = dice.nextInt(3) > 0;
            due("answer " + k, x.answer(k, yes), y.answer(k, yes));
        } else if (roll < 11) {
            int hand = number(3);
            int rank = number(10);
            due("rank " + hand + " " + rank, x.rank(hand, rank), y.rank(hand, rank));
        } else if (roll < 12) {
            int change = number(10);
            int miss = number(10);
            due("costs " + change + " " + miss, x.costs(change, miss), y.costs(change, miss));
        } else if (roll < 15) {
            due("hold", x.hold(), y.hold());
            askHeld();
        } else if (roll < 16) {
            due("next", x.next(), y.next());
        } else if (roll < 17) {
            int k = number(y.marks.size());
            boolean is = dice.nextBoolean();
            due("error " + k, x.error(k, is), y.error(k, is));
        } else if (roll < 18) {
            int kind = number(5);
            int pence = number(1000);
            due("price " + kind, x.price(kind, pence), y.price(kind, pence));
        } else {
            askSome();
        }
    }

    /** Mostly one that there is; now and then one that can't be. */
    private int number(int below) {
        if (dice.nextInt(12) == 0) {
            return ODD[dice.nextInt(ODD.length)];
        }
        return dice.nextInt(below + 1);
    }

    private void read(int which, String text) {
        for (int i = 0; i < text.length(); i += 20) {
            int[] five = new int[5];
            for (int b = 0; b < 20; b++) {
                int c = i + b < text.length() ? text.charAt(i + b) & 255 : dice.nextInt(256);
                five[b / 4] = five[b / 4] << 8 | c;
            }
            due("feed", x.feed(five[0], five[1], five[2], five[3], five[4]), y.feed(five));
        }
        due("end", x.end(text.length()), y.end(text.length()));
        String call = "reads (" + which + ") " + text;
        if (which == 0) {
            due(call, x.first(), y.first());
        } else if (which == 1) {
            due(call, x.second(), y.second());
        } else {
            due(call, x.marks(), y.marks());
        }
        due(call + " KIND", x.fault(0), y.faultKind);
        due(call + " PLACE", x.fault(1), y.faultPlace);
    }

    private String wordText() {
        int roll = dice.nextInt(40);
        if (roll == 0) {
            return "aB0.,'!?";
        }
        return roll == 1 ? "longer" : String.valueOf((char) ('a' + dice.nextInt(roll < 20 ? 3 : 12)));
    }

    private String blank() {
        return dice.nextInt(6) == 0 ? "\n " : " ";
    }

    private String proofText(int most) {
        StringBuilder text = new StringBuilder();
        int words = dice.nextInt(most + 1);
        for (int i = 0; i < words; i++) {
            text.append(wordText()).append(blank());
        }
        return spoil(text.toString(), 30);
    }

    /** What was asked, but for a MARK or a WORD here and there. */
    private String nearText() {
        StringBuilder text = new StringBuilder();
        java.util.List<Integer> set = y.done();
        set.removeIf(k -> dice.nextInt(4) == 0);
        for (String word : y.text(set)) {
            int roll = dice.nextInt(14);
            if (roll == 0) {
                text.append(wordText()).append(' ');
            }
            text.append(roll == 1 ? "" : roll == 2 ? wordText() : word).append(' ');
        }
        return text.toString();
    }

    private String spoil(String text, int seldom) {
        if (spoilt == 0 || text.isEmpty() || text.length() > 1900 || dice.nextInt(seldom) != 0) {
            return text;
        }
        String spoils = "*=;? 0a\t\n9strike";
        StringBuilder bad = new StringBuilder(text);
        int at = dice.nextInt(text.length());
        int roll = dice.nextInt(4);
        char c = dice.nextInt(20) == 0 ? (char) dice.nextInt(256) : spoils.charAt(dice.nextInt(spoils.length()));
        if (roll == 0) {
            bad.setLength(at);
        } else if (roll == 1) {
            bad.insert(at, c);
        } else if (roll == 2) {
            bad.setCharAt(at, c);
        } else {
            bad.deleteCharAt(at);
        }
        return bad.toString();
    }

    private String marksText() {
        StringBuilder text = new StringBuilder();
        int lines = dice.nextInt(linesMost + 1);
        int stets = y.marks.size();
        for (int i = 0; i < lines; i++) {
            text.append(lineText(stets + i)).append(dice.nextInt(3) == 0 ? ";" : " ;\n");
        }
        String told = spoil(text.toString(), 10 / (spoilt + 1) + 1);
        return told.length() > 1990 ? "" : told;
    }

    private String lineText(int marks) {
        int n = y.first.size();
        String head = HANDS[dice.nextInt(3)] + (dice.nextInt(7) == 0 ? " ? " : " ");
        int[] sorted = {dice.nextInt(n + 1), dice.nextInt(n + 1), dice.nextInt(n + 1)};
        if (dice.nextInt(3) == 0) {
            sorted[1] = Math.min(n, sorted[0] + dice.nextInt(3));
            sorted[2] = Math.min(n, sorted[1] + dice.nextInt(3));
        }
        if (spoilt == 0 || dice.nextInt(20) > 0) {
            java.util.Arrays.sort(sorted);
            for (int i = 0; i < 3 && n > 0; i++) {
                sorted[i] = Math.min(sorted[i], n - 1);
            }
        }
        nest(sorted);
        String two = sorted[0] + " " + sorted[1];
        switch (n == 0 ? 1 : dice.nextInt(9)) {
            case 0: return head + "strike " + two;
            case 1: return head + "put " + sorted[dice.nextInt(3)] + wordsText();
            case 2: return head + "change " + two + wordsText();
            case 3: case 4: return turnText(head, sorted, n);
            case 5: case 6: case 7: return moveText(head, sorted, n);
            default: return marks == 0 ? head + "put 0" + wordsText() : HANDS[dice.nextInt(3)] + " stet " + dice.nextInt(marks);
        }
    }

    /** Often the numbers of a MARK are put inside a row that an earlier one carries. */
    private void nest(int[] sorted) {
        if (y.marks.isEmpty() || dice.nextInt(3) == 0) {
            return;
        }
        for (java.util.Set<Integer> row : y.marks.get(dice.nextInt(y.marks.size())).carriers()) {
            int from = java.util.Collections.min(row);
            for (int i = 0; i < 3 && dice.nextInt(5) > 0; i++) {
                sorted[i] = from + dice.nextInt(row.size());
            }
            java.util.Arrays.sort(sorted);
        }
    }

    private String turnText(String head, int[] s, int n) {
        if (s[0] == s[1] && n > 1 && dice.nextInt(20) > 0) {
            return head + "turn " + Math.min(s[0], n - 2) + " " + Math.min(s[0] + 1, n - 1) + " " + Math.max(s[2], Math.min(s[0] + 1, n - 1));
        }
        return head + "turn " + s[0] + " " + s[1] + " " + s[2];
    }

    private String moveText(String head, int[] s, int n) {
        if (dice.nextBoolean()) {
            return head + "move " + s[1] + " " + s[2] + " " + (s[0] == s[1] && s[1] > 0 ? s[1] - 1 : s[0]);
        }
        return head + "move " + s[0] + " " + s[1] + " " + (s[2] > s[1] + 1 ? s[2] : s[1] + 2 <= n ? s[1] + 2 : 0);
    }

    private String wordsText() {
        StringBuilder text = new StringBuilder(dice.nextBoolean() ? "=" : " = ");
        int words = dice.nextInt(3) > 0 ? 1 : 1 + dice.nextInt(spoilt == 0 ? 6 : 7);
        for (int i = 0; i < words; i++) {
            text.append(i == 0 ? "" : " ").append(wordText().replace(';', '.'));
        }
        return text.toString();
    }

    private void askHeld() {
        for (int what = -1; what < 20; what++) {
            due("held " + what, x.held(what), y.held(what));
        }
        for (int i = -1; i <= y.heldChanges.size(); i++) {
            for (int what = -1; what < 4; what++) {
                due("unasked " + i + " " + what, x.unasked(i, what), y.unasked(i, what));
            }
        }
    }

    private void askSome() {
        int k = number(y.marks.size());
        int o = number(y.marks.size());
        int what = number(18);
        int t = number(2);
        int u = number(2);
        due("meet " + k + " " + o, x.meet(k, o), y.meet(k, o));
        due("within " + k + " " + o, x.within(k, o), y.within(k, o));
        due("mark " + k + " " + what, x.mark(k, what), y.mark(k, what));
        due("distance " + t + " " + u, x.distance(t, u), y.distance(t, u));
        due("word " + t + " " + o, x.word(t, o), y.word(t, o));
        due("pays " + t, x.pays(t), y.pays(t));
        askTexts();
    }

    private void askTexts() {
        for (int what = -1; what < 15; what++) {
            due("count " + what, x.count(what), y.count(what));
        }
        for (int t = 0; t < 3; t++) {
            desk.due(name + "text " + t, Desk.text(x, t), String.join(" ", y.sheet(t)));
        }
    }

    private void askAll() {
        askTexts();
        askHeld();
        int marks = y.marks.size();
        for (int k = -1; k <= marks; k++) {
            for (int what = -1; what < 18; what++) {
                due("mark " + k + " " + what, x.mark(k, what), y.mark(k, what));
            }
            for (int o = -1; o <= marks; o++) {
                due("meet " + k + " " + o, x.meet(k, o), y.meet(k, o));
                due("within " + k + " " + o, x.within(k, o), y.within(k, o));
            }
        }
    }
}
