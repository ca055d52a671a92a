import java.util.ArrayList;
import java.util.List;

/** Every two MARKS that a short proof can have, and every three of a shorter one, held against the Model. */
public final class PairsTests {
    private static final Desk DESK = new Desk();

    public static void main(String[] args) {
        List<String> five = allMarks(5);
        for (String one : five) {
            for (String other : five) {
                dueAsModel("a b c d e", "b e a c", "reader " + one + ";author " + other + ";");
            }
        }
        List<String> three = allMarks(3);
        for (String one : three) {
            for (String two : three) {
                for (String last : three) {
                    dueAsModel("a b c", "c b", "author " + one + ";author " + two + ";author " + last + ";");
                }
            }
        }
        DESK.close();
    }

    /** Each MARK but a STET that there is on so many WORDS, with a WORD of its own. */
    private static List<String> allMarks(int words) {
        List<String> all = new ArrayList<>();
        for (int a = 0; a <= words; a++) {
            all.add("put " + a + " = P" + a);
            for (int b = a; b < words; b++) {
                all.add("strike " + a + " " + b);
                all.add("change " + a + " " + b + " = C" + a + b);
                for (int c = 0; c <= words; c++) {
                    if (b > a && c >= b && c < words) {
                        all.add("turn " + a + " " + b + " " + c);
                    }
                    if (c < a || c > b + 1) {
                        all.add("move " + a + " " + b + " " + c);
                    }
                }
            }
        }
        return all;
    }

    private static void dueAsModel(String first, String second, String marks) {
        if (DESK.isAbove(20)) {
            return;
        }
        MarkedProof x = Desk.open(first, marks);
        Desk.second(x, second);
        Model y = new Model();
        y.tape.append(first);
        y.first();
        y.tape.append(second);
        y.second();
        y.tape.append(marks);
        DESK.due("came of " + marks, x.count(3), y.marks());
        int many = y.marks.size();
        int[][] fates = y.fates();
        for (int k = 0; k < many; k++) {
            DESK.due(marks + " state of " + k, x.mark(k, 6), fates[k][0]);
            DESK.due(marks + " cause of " + k, x.mark(k, 7), fates[k][1]);
            for (int o = 0; o < many; o++) {
                DESK.due(marks + " meet " + k + " " + o, x.meet(k, o), y.meet(k, o));
                DESK.due(marks + " within " + k + " " + o, x.within(k, o), y.within(k, o));
            }
        }
        DESK.due(marks + " THE TEXT", Desk.text(x, 2), String.join(" ", y.sheet(2)));
        DESK.due(marks + " hold", x.hold(), y.hold());
        DESK.due(marks + " the set", x.held(0), y.held(0));
    }
}
