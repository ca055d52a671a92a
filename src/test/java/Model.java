import java.util.ArrayList;
import java.util.Arrays;
import java.util.Collections;
import java.util.HashSet;
import java.util.List;
import java.util.Set;
import java.util.TreeMap;
import java.util.regex.Matcher;
import java.util.regex.Pattern;

/** The promises worked out a second time, by plain and slow ways that are not those of the class. */
final class Model {
    private static final String GOOD = "[a-zA-Z0-9.,'!?;:-]";
    private static final List<String> HANDS = List.of("author", "reader", "printer");
    private static final List<String> KINDS = List.of("strike", "put", "change", "turn", "move", "stet");
    private static final int[] NUMBERS = {2, 1, 2, 3, 3, 1};

    static final class M {
        int kind;
        int hand;
        boolean query;
        Boolean answer;
        boolean error;
        int stetBy = -1;
        final List<Integer> n = new ArrayList<>();
        final List<String> words = new ArrayList<>();

        Set<Integer> row() {
            Set<Integer> row = new HashSet<>();
            if (kind != 1 && kind != 5) {
                for (int i = n.get(0); i <= (kind == 3 ? n.get(2) : n.get(1)); i++) {
                    row.add(i);
                }
            }
            return row;
        }

        Set<Integer> gaps() {
            Set<Integer> gaps = new HashSet<>();
            if (kind == 1) {
                gaps.add(n.get(0));
            }
            if (kind == 4) {
                gaps.add(n.get(2));
            }
            return gaps;
        }

        List<Set<Integer>> carriers() {
            List<Set<Integer>> all = new ArrayList<>();
            if (kind == 4) {
                all.add(row());
            }
            if (kind == 3) {
                Set<Integer> one = row();
                Set<Integer> two = row();
                one.removeIf(i -> i >= n.get(1));
                two.removeIf(i -> i < n.get(1));
                all.add(one);
                all.add(two);
            }
            return all;
        }
    }

    /** A WORD (text) or a GAP with what comes in there, by the numbers of the MARKS. */
    private static final class Item {
        String text;
        int gap = -1;
        final TreeMap<Integer, List<Item>> coming = new TreeMap<>();
    }

    private static final class Wrong extends RuntimeException {
        private static final long serialVersionUID = 1L;
        final int kind;
        final int place;

        Wrong(int kind, int place) {
            this.kind = kind;
            this.place = place;
        }
    }

    StringBuilder tape = new StringBuilder();
    List<String> first = new ArrayList<>();
    List<String> second = new ArrayList<>();
    List<M> marks = new ArrayList<>();
    int[] ranks = {0, 1, 2};
    int[] prices = {5, 10, 10, 8, 12};
    int change = 2;
    int miss = 3;
    int faultKind = 0;
    int faultPlace = -1;
    List<Integer> heldMissed = null;
    int heldSet;
    int heldApart;
    List<int[]> heldChanges = new ArrayList<>();

    int feed(int... five) {
        if (tape.length() > 1980) {
            return -3;
        }
        for (int v : five) {
            tape.append((char) (v >>> 24)).append((char) (v >>> 16 & 255)).append((char) (v >>> 8 & 255)).append((char) (v & 255));
        }
        return tape.length();
    }

    int end(int n) {
        if (n < 0 || n > tape.length()) {
            return -1;
        }
        tape.setLength(n);
        return n;
    }

    private String take() {
        String text = tape.toString();
        tape.setLength(0);
        faultKind = 0;
        faultPlace = -1;
        return text;
    }

    private int fail(Wrong w) {
        faultKind = w.kind;
        faultPlace = w.place;
        return -1;
    }

    private static List<String> proof(String text, int most) {
        List<String> words = new ArrayList<>();
        Matcher m = Pattern.compile("[^ \n]+").matcher(text);
        while (m.find()) {
            String w = m.group();
            for (int i = 0; i < w.length(); i++) {
                if (i == 8 || !w.substring(i, i + 1).matches(GOOD)) {
                    throw new Wrong(1, m.start() + i);
                }
                if (i == 0 && words.size() == most) {
                    throw new Wrong(3, m.start());
                }
            }
            words.add(w);
        }
        return words;
    }

    int first() {
        try {
            first = proof(take(), 60);
            marks = new ArrayList<>();
            return first.size();
        } catch (Wrong w) {
            return fail(w);
        }
    }

    int second() {
        try {
            second = proof(take(), 150);
            return second.size();
        } catch (Wrong w) {
            return fail(w);
        }
    }

    int marks() {
        String text = take();
        List<M> all = new ArrayList<>(marks);
        try {
            int at = skip(text, 0);
            while (at < text.length()) {
                at = skip(text, line(text, at, all));
            }
        } catch (Wrong w) {
            return fail(w);
        }
        int came = all.size() - marks.size();
        for (int k = marks.size(); k < all.size(); k++) {
            M stet = all.get(k);
            if (stet.kind == 5) {
                M told = all.get(stet.n.get(0));
                if (told.stetBy < 0 && told.answer != Boolean.FALSE) {
                    told.stetBy = k;
                }
            }
        }
        marks = all;
        return came;
    }

    private static int skip(String text, int at) {
        Matcher m = Pattern.compile("[ \n]*").matcher(text).region(at, text.length());
        return m.lookingAt() ? m.end() : at;
    }

    /** The TOKEN at a place, "" for a byte that is none and for the end. */
    private static String token(String text, int at) {
        Matcher m = Pattern.compile("[a-z]+|[0-9]+|[?=;]").matcher(text).region(at, text.length());
        return m.lookingAt() ? m.group() : "";
    }

    private int line(String text, int start, List<M> all) {
        int at = start;
        String t = token(text, at);
        M m = new M();
        m.hand = HANDS.indexOf(t);
        if (m.hand < 0) {
            throw new Wrong(1, at);
        }
        if (all.size() == 40) {
            throw new Wrong(3, at);
        }
        at = skip(text, at + t.length());
        t = token(text, at);
        if (t.equals("?")) {
            m.query = true;
            at = skip(text, at + 1);
            t = token(text, at);
        }
        m.kind = KINDS.indexOf(t);
        if (m.kind < 0 || m.kind == 5 && m.query) {
            throw new Wrong(1, at);
        }
        at = skip(text, at + t.length());
        for (int i = 0; i < NUMBERS[m.kind]; i++) {
            t = token(text, at);
            if (!t.matches("[0-9]{1,3}")) {
                throw new Wrong(1, at);
            }
            m.n.add(Integer.parseInt(t));
            if (!canGoOn(m, all)) {
                throw new Wrong(2, at);
            }
            at = skip(text, at + t.length());
        }
        t = token(text, at);
        if (m.kind == 1 || m.kind == 2) {
            if (!t.equals("=")) {
                throw new Wrong(1, at);
            }
            at = words(text, at + 1, m);
            t = token(text, at);
        }
        if (!t.equals(";")) {
            throw new Wrong(1, at);
        }
        all.add(m);
        return at + 1;
    }

    private static int words(String text, int from, M m) {
        int at = skip(text, from);
        Matcher w = Pattern.compile("[^ \n;]+").matcher(text);
        while (w.region(at, text.length()).lookingAt()) {
            if (!w.group().matches(GOOD + "{1,8}")) {
                throw new Wrong(1, at);
            }
            if (m.words.size() == 6) {
                throw new Wrong(3, at);
            }
            m.words.add(w.group());
            at = skip(text, w.end());
        }
        if (m.words.isEmpty()) {
            throw new Wrong(1, at);
        }
        return at;
    }

    private boolean canGoOn(M m, List<M> all) {
        if (m.n.size() == NUMBERS[m.kind]) {
            return isMark(m.kind, m.n, all);
        }
        List<Integer> more = new ArrayList<>(m.n);
        for (int x = 0; x <= first.size(); x++) {
            more.add(x);
            M longer = new M();
            longer.kind = m.kind;
            longer.n.addAll(more);
            if (canGoOn(longer, all)) {
                return true;
            }
            more.remove(more.size() - 1);
        }
        return false;
    }

    private boolean isMark(int kind, List<Integer> n, List<M> all) {
        int size = first.size();
        int a = n.get(0);
        if (kind == 1) {
            return a <= size;
        }
        if (kind == 5) {
            return a < all.size() && all.get(a).kind != 5;
        }
        int b = n.get(1);
        if (kind == 0 || kind == 2) {
            return a <= b && b < size;
        }
        int c = n.get(2);
        if (kind == 3) {
            return a < b && b <= c && c < size;
        }
        return a <= b && b < size && c <= size && (c < a || c > b + 1);
    }

    private static boolean isGapInside(int g, Set<Integer> row) {
        return row.contains(g - 1) && row.contains(g);
    }

    private static boolean within(M k, M o) {
        for (Set<Integer> row : o.carriers()) {
            boolean all = row.containsAll(k.row());
            for (int g : k.gaps()) {
                all = all && isGapInside(g, row);
            }
            if (all) {
                return true;
            }
        }
        return false;
    }

    private static boolean meet(M k, M o) {
        if (within(k, o) || within(o, k)) {
            return false;
        }
        boolean meets = !Collections.disjoint(k.row(), o.row());
        for (int g : k.gaps()) {
            meets = meets || isGapInside(g, o.row());
        }
        for (int g : o.gaps()) {
            meets = meets || isGapInside(g, k.row());
        }
        return meets;
    }

    private boolean isNoStet(int k) {
        return k >= 0 && k < marks.size() && marks.get(k).kind != 5;
    }

    int meet(int k, int o) {
        return k == o || !isNoStet(k) || !isNoStet(o) ? -2 : meet(marks.get(k), marks.get(o)) ? 1 : 0;
    }

    int within(int k, int o) {
        return k == o || !isNoStet(k) || !isNoStet(o) ? -2 : within(marks.get(k), marks.get(o)) ? 1 : 0;
    }

    /** Of each MARK {what 6, what 7}. */
    int[][] fates() {
        int[][] fate = new int[marks.size()][];
        List<Integer> asking = new ArrayList<>();
        for (int k = 0; k < marks.size(); k++) {
            M m = marks.get(k);
            if (m.kind == 5) {
                fate[k] = new int[] {4, -1};
            } else if (m.stetBy >= 0 || m.answer == Boolean.FALSE) {
                fate[k] = new int[] {2, m.stetBy};
            } else if (m.query && m.answer == null) {
                fate[k] = new int[] {3, -1};
            } else {
                asking.add(k);
            }
        }
        asking.sort((a, b) -> ranks[marks.get(a).hand] != ranks[marks.get(b).hand]
            ? ranks[marks.get(a).hand] - ranks[marks.get(b).hand] : a - b);
        Set<Integer> done = new HashSet<>();
        for (int k : asking) {
            int by = -1;
            for (int o : done) {
                if (meet(marks.get(k), marks.get(o)) && (by < 0 || o < by)) {
                    by = o;
                }
            }
            fate[k] = new int[] {by < 0 ? 0 : 1, by};
            if (by < 0) {
                done.add(k);
            }
        }
        return fate;
    }

    List<Integer> done() {
        List<Integer> done = new ArrayList<>();
        int[][] fate = fates();
        for (int k = 0; k < fate.length; k++) {
            if (fate[k][0] == 0) {
                done.add(k);
            }
        }
        return done;
    }

    /** Inner MARKS first, each on one long row of GAPS and WORDS between them. */
    List<String> text(List<Integer> set) {
        List<Item> row = new ArrayList<>();
        Item[] gaps = new Item[first.size() + 1];
        for (int i = 0; i <= first.size(); i++) {
            gaps[i] = new Item();
            gaps[i].gap = i;
            row.add(gaps[i]);
            if (i < first.size()) {
                Item word = new Item();
                word.text = first.get(i);
                row.add(word);
            }
        }
        List<Integer> left = new ArrayList<>(set);
        while (!left.isEmpty()) {
            int k = -1;
            for (int c : left) {
                boolean isInnermost = true;
                for (int o : left) {
                    isInnermost = isInnermost && (o == c || !within(marks.get(o), marks.get(c)));
                }
                k = k < 0 && isInnermost ? c : k;
            }
            apply(k, row, gaps);
            left.remove(Integer.valueOf(k));
        }
        List<String> out = new ArrayList<>();
        flatten(row, out);
        return out;
    }

    private void apply(int k, List<Item> row, Item[] gaps) {
        M m = marks.get(k);
        if (m.kind == 1) {
            gaps[m.n.get(0)].coming.put(k, items(m.words));
            return;
        }
        int a = m.n.get(0);
        int last = m.kind == 3 ? m.n.get(2) : m.n.get(1);
        int from = row.indexOf(gaps[a]) + 1;
        List<Item> part = row.subList(from, row.indexOf(gaps[last + 1]));
        if (m.kind == 0) {
            part.clear();
        } else if (m.kind == 2) {
            part.clear();
            part.addAll(items(m.words));
        } else if (m.kind == 4) {
            gaps[m.n.get(2)].coming.put(k, new ArrayList<>(part));
            part.clear();
        } else {
            int middle = part.indexOf(gaps[m.n.get(1)]);
            List<Item> one = new ArrayList<>(part.subList(0, middle));
            List<Item> two = new ArrayList<>(part.subList(middle + 1, part.size()));
            part.clear();
            part.addAll(two);
            part.add(gaps[m.n.get(1)]);
            part.addAll(one);
        }
    }

    private static List<Item> items(List<String> words) {
        List<Item> items = new ArrayList<>();
        for (String w : words) {
            Item item = new Item();
            item.text = w;
            items.add(item);
        }
        return items;
    }

    private static void flatten(List<Item> row, List<String> out) {
        for (Item item : row) {
            if (item.gap < 0) {
                out.add(item.text);
            } else {
                for (List<Item> coming : item.coming.values()) {
                    flatten(coming, out);
                }
            }
        }
    }

    List<String> sheet(int t) {
        return t == 0 ? first : t == 1 ? second : t == 2 ? text(done()) : null;
    }

    static long number(String word) {
        long n = 0;
        for (char c : word.toCharArray()) {
            n = n * 256 + c;
        }
        return n;
    }

    long word(int t, int i) {
        List<String> sheet = sheet(t);
        return sheet == null || i < 0 || i >= sheet.size() ? 0 : number(sheet.get(i));
    }

    int mark(int k, int what) {
        if (k < 0 || k >= marks.size() || what < 0 || what == 9) {
            return -9;
        }
        M m = marks.get(k);
        if (what >= 10) {
            return what - 10 < m.words.size() ? (int) (number(m.words.get(what - 10)) % 4294967296L) : -9;
        }
        if (what >= 2 && what <= 4) {
            return what - 2 < m.n.size() ? m.n.get(what - 2) : -1;
        }
        int[] told = {m.kind, m.hand, 0, 0, 0, m.words.size(), fates()[k][0], fates()[k][1], m.error ? 1 : 0};
        return told[what];
    }

    int answer(int k, boolean yes) {
        if (k < 0 || k >= marks.size()) {
            return -2;
        }
        if (fates()[k][0] != 3) {
            return -4;
        }
        marks.get(k).answer = yes;
        return 1;
    }

    int rank(int hand, int rank) {
        if (hand < 0 || hand > 2 || rank < 0 || rank > 9) {
            return -2;
        }
        int was = ranks[hand];
        ranks[hand] = rank;
        return was;
    }

    int costs(int forChange, int forMiss) {
        if (forChange < 1 || forChange > 9 || forMiss < 1 || forMiss > 9) {
            return -2;
        }
        change = forChange;
        miss = forMiss;
        return 1;
    }

    /** For all ends of both texts, from i and from j on. */
    private static int[][] table(List<String> one, List<String> other) {
        int[][] d = new int[one.size() + 1][other.size() + 1];
        for (int i = one.size(); i >= 0; i--) {
            for (int j = other.size(); j >= 0; j--) {
                if (i == one.size() || j == other.size()) {
                    d[i][j] = one.size() - i + other.size() - j;
                } else {
                    int same = one.get(i).equals(other.get(j)) ? 0 : 1;
                    d[i][j] = Math.min(d[i + 1][j + 1] + same, 1 + Math.min(d[i + 1][j], d[i][j + 1]));
                }
            }
        }
        return d;
    }

    int hold() {
        List<Integer> done = done();
        if (done.size() > 8) {
            return -3;
        }
        int[] best = null;
        for (int set = 0; set < 1 << done.size(); set++) {
            int many = Integer.bitCount(set);
            int apart = table(text(without(done, set)), second)[0][0];
            int[] told = {apart * change + many * miss, many, set, apart};
            if (best == null || Arrays.compare(told, best) < 0) {
                best = told;
            }
        }
        heldSet = best[2];
        heldApart = best[3];
        heldMissed = new ArrayList<>(done);
        heldMissed.removeAll(without(done, heldSet));
        path(text(without(done, heldSet)));
        return best[0];
    }

    private static List<Integer> without(List<Integer> done, int set) {
        List<Integer> rest = new ArrayList<>();
        for (int i = 0; i < done.size(); i++) {
            if ((set >> i & 1) == 0) {
                rest.add(done.get(i));
            }
        }
        return rest;
    }

    private void path(List<String> asked) {
        heldChanges = new ArrayList<>();
        int[][] d = table(asked, second);
        int i = 0;
        int j = 0;
        while (i < asked.size() || j < second.size()) {
            boolean hasBoth = i < asked.size() && j < second.size();
            if (hasBoth && asked.get(i).equals(second.get(j)) && d[i][j] == d[i + 1][j + 1]) {
                i++;
                j++;
            } else if (hasBoth && d[i][j] == 1 + d[i + 1][j + 1]) {
                heldChanges.add(new int[] {0, i++, j++});
            } else if (i < asked.size() && d[i][j] == 1 + d[i + 1][j]) {
                heldChanges.add(new int[] {1, i++, j});
            } else {
                heldChanges.add(new int[] {2, i, j++});
            }
        }
    }

    int held(int what) {
        if (heldMissed == null || what < 0) {
            return -1;
        }
        if (what >= 10) {
            return what - 10 < heldMissed.size() ? heldMissed.get(what - 10) : -1;
        }
        return what == 0 ? heldSet : what == 1 ? heldMissed.size() : what == 2 ? heldApart : -1;
    }

    int unasked(int i, int what) {
        return i < 0 || i >= heldChanges.size() || what < 0 || what > 2 ? -1 : heldChanges.get(i)[what];
    }

    int distance(int t, int u) {
        List<String> one = sheet(t);
        List<String> other = sheet(u);
        return one == null || other == null ? -2 : table(one, other)[0][0];
    }

    int next() {
        if (second.isEmpty() || second.size() > 60) {
            return -4;
        }
        first = second;
        second = new ArrayList<>();
        marks = new ArrayList<>();
        return first.size();
    }

    int error(int k, boolean is) {
        if (!isNoStet(k)) {
            return -2;
        }
        boolean was = marks.get(k).error;
        marks.get(k).error = is;
        return was != is ? 1 : 0;
    }

    int price(int kind, int pence) {
        if (kind < 0 || kind > 4 || pence < 0 || pence > 999) {
            return -2;
        }
        int was = prices[kind];
        prices[kind] = pence;
        return was;
    }

    int pays(int whom) {
        if (whom < 0 || whom > 1) {
            return -2;
        }
        int sum = 0;
        for (int k : done()) {
            M m = marks.get(k);
            int payer = m.hand == 2 || m.error ? 1 : 0;
            sum += payer == whom ? prices[m.kind] : 0;
        }
        return sum;
    }

    int count(int what) {
        if (what >= 0 && what <= 2) {
            return sheet(what).size();
        }
        int[] tally = new int[5];
        for (int[] fate : fates()) {
            tally[fate[0]]++;
        }
        switch (what) {
            case 3: return marks.size();
            case 4: return tally[0] + tally[1];
            case 5: return tally[0];
            case 6: return tally[1];
            case 7: return tally[2];
            case 8: return tally[3];
            case 9: return tape.length();
            case 10: case 11: case 12: return ranks[what - 10];
            default: return -1;
        }
    }
}
