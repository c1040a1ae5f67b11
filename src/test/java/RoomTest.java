import com.sun.management.ThreadMXBean;
import java.lang.management.ManagementFactory;

/** All calls of a run live in one room: no call makes an object, and a StringToll is small. */
public final class RoomTest {
    private static final Due due = new Due("RoomTest");
    private static final int ROUNDS = 50;
    /** What the measuring itself may take. */
    private static final long SLACK = 4096;
    private static final String TEXT = "province 9;house 0 4;string 5 50;purse 9;send 0;wait 7;";

    public static void main(String[] args) {
        ThreadMXBean bean = (ThreadMXBean) ManagementFactory.getThreadMXBean();
        StringToll x = new StringToll();
        long sum = 0;
        for (int k = 0; k < ROUNDS; k++) {
            sum += allCalls(x);
        }
        long before = bean.getCurrentThreadAllocatedBytes();
        for (int k = 0; k < ROUNDS; k++) {
            sum += allCalls(x);
        }
        long made = bean.getCurrentThreadAllocatedBytes() - before;
        due.holds("bytes made by " + ROUNDS + " rounds of all calls: " + made, made <= SLACK);
        before = bean.getCurrentThreadAllocatedBytes();
        StringToll[] many = new StringToll[100];
        for (int k = 0; k < many.length; k++) {
            many[k] = new StringToll();
        }
        made = (bean.getCurrentThreadAllocatedBytes() - before) / many.length;
        due.holds("bytes of an object: " + made, made < 16384);
        due.holds("the calls were made", sum != many.length);
        due.end();
    }

    private static long allCalls(StringToll x) {
        long sum = x.province(12, 700) + x.house(0, 4) + x.house(1, 2);
        for (int i = 0; i < 6; i++) {
            sum += x.string(i % 6, 10 + 9 * i);
        }
        sum += x.sends(0) + x.sends(1) + x.waits(9) + x.undo() + x.of(0, 0) + x.now(0);
        sum += x.asks(0, 3, 1) + x.cheapest(0, 0) + x.cuts(5, 60, 0) + x.row(-2) + x.row(0);
        sum += x.came(20, 0) + x.lines(0) + x.tries() + x.note(0, 9, 1, 0) + x.mark(0, 9, 1, 5);
        sum += x.is(0) + x.look(0) + x.kinds(0) + x.ask(0) + x.ends(-1) + x.ends(0);
        sum += x.scissors(3) + x.nights(7, 60) + x.part(0) + x.image(0) + x.image(1) + x.from(0);
        sum += x.forget(0) + x.forget(1) + x.forget(2) + x.clear();
        for (int i = 0; i < TEXT.length(); i++) {
            sum += x.type(TEXT.charAt(i));
        }
        return sum + x.read() + x.status(0) + x.count(5) + x.digest();
    }
}
