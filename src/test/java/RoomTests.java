import com.sun.management.ThreadMXBean;
import java.lang.management.ManagementFactory;

/** All calls of one run live in one room: what an object takes when it is made, and that its calls take nothing more. */
public final class RoomTests {
    private static final Desk DESK = new Desk();
    private static final ThreadMXBean BEAN = (ThreadMXBean) ManagementFactory.getThreadMXBean();
    private static long sum = 0;

    private static long taken() {
        return BEAN.getThreadAllocatedBytes(Thread.currentThread().getId());
    }

    public static void main(String[] args) {
        MarkedProof x = new MarkedProof();
        int[] first = ints("a b c d e f g h a b c d e f g h");
        int[] second = ints("h g f e d c b a h g f e d c b a");
        int[] marks = ints("author strike 0 0; reader ? put 1 = x y z; printer change 1 2 = x; author turn 3 4 7; reader move 9 12 8;"
            + " author put 11 = q; author stet 0; reader put 0 = r; author strike 9");
        int[] good = ints("author strike 0 0; reader ? put 1 = x y z; printer change 1 2 = x; author turn 3 4 7; reader move 9 12 8;"
            + " author put 11 = q; author stet 0; reader put 0 = r;");
        taken();
        calls(x, first, second, marks, good);
        long before = taken();
        long idle = taken() - before;
        before = taken();
        calls(x, first, second, marks, good);
        long used = taken() - before - idle;
        DESK.due("bytes that calls take", used, 0);
        before = taken();
        MarkedProof y = new MarkedProof();
        long made = taken() - before - idle;
        sum += y.count(0);
        // 512 objects of a run have 14,000 fields and elements each; none is below one byte and most are eight.
        DESK.due("an object is small (" + made + " bytes)", made < 28000 ? 1 : 0, 1);
        DESK.due("what was asked is as due", sum != 0 ? 1 : 0, 1);
        DESK.close();
    }

    private static int[] ints(String text) {
        int[] all = new int[(text.length() + 19) / 20 * 5];
        for (int i = 0; i < all.length * 4; i++) {
            all[i / 4] = all[i / 4] << 8 | (i < text.length() ? text.charAt(i) : ' ');
        }
        return all;
    }

    private static void tape(MarkedProof x, int[] text) {
        for (int i = 0; i < text.length; i += 5) {
            sum += x.feed(text[i], text[i + 1], text[i + 2], text[i + 3], text[i + 4]);
        }
        sum += x.end(x.count(9));
    }

    private static void calls(MarkedProof x, int[] first, int[] second, int[] marks, int[] good) {
        tape(x, first);
        sum += x.first();
        tape(x, second);
        sum += x.second();
        tape(x, marks);
        sum += x.marks();
        tape(x, good);
        sum += x.marks();
        sum += x.answer(1, true) + x.rank(0, 3) + x.costs(3, 2) + x.hold() + x.error(0, true) + x.price(0, 9);
        for (int i = -1; i < 40; i++) {
            sum += x.fault(i) + x.held(i) + x.pays(i) + x.count(i);
            for (int j = -1; j < 20; j++) {
                sum += x.word(j, i) + x.mark(i, j) + x.meet(i, j) + x.within(i, j) + x.unasked(i, j) + x.distance(i, j);
            }
        }
        sum += x.next();
    }
}
