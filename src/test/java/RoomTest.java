import com.sun.management.ThreadMXBean;
import java.lang.management.ManagementFactory;

/** All calls of a run live in one room: an object is made small, and no call makes anything. */
public final class RoomTest {
    private static final int OBJECTS = 2000;
    private static final long MOST_BYTES_AN_OBJECT = 6000;
    private static final long MOST_BYTES_A_CALL = 1;

    private static long answers = 0;

    /** A text and the dearest calls: how many calls. */
    private static int use(WalnutHouses x, byte[] text) {
        for (byte c : text) {
            answers += x.feed(c);
        }
        answers += x.text();
        for (int n = 0; n < 10; n++) {
            answers += x.days(1) + x.runs(60, 3) + x.wording(0) + x.lose(0) + x.cross(1) + x.give(n % 4, 20) + x.mind(n % 4, 0);
            answers += x.luck(3, 4, 0) + x.mean(3, 4, 1) + x.see(n, n) + x.kinds(n % 4) + x.wants(n % 4) + x.ask(n % 4, 0);
            answers += x.drift(n, 60, 0) + x.keep(n % 2) + x.back(n % 2) + x.sheet(n % 4, n % 3, 40) + x.lay(n % 4, n, n);
            answers += x.read(n % 4, n % 3, 0, 20) + x.torn() + x.count(4) + x.forget(0);
        }
        return text.length + 1 + 10 * 22;
    }

    public static void main(String[] args) {
        ThreadMXBean bean = (ThreadMXBean) ManagementFactory.getThreadMXBean();
        byte[] text = "plain 0 6 0;whip 0 12 1;maggot 1 9 1;doubter 1 3 0;motion 7;".getBytes();
        WalnutHouses[] made = new WalnutHouses[OBJECTS];
        use(new WalnutHouses(), text);
        long before = bean.getCurrentThreadAllocatedBytes();
        for (int o = 0; o < OBJECTS; o++) {
            made[o] = new WalnutHouses();
        }
        long between = bean.getCurrentThreadAllocatedBytes();
        long calls = 0;
        for (int o = 0; o < OBJECTS; o++) {
            calls += use(made[o], text);
        }
        long behind = bean.getCurrentThreadAllocatedBytes();
        long anObject = (between - before) / OBJECTS;
        long aCall = (behind - between) / calls;
        System.out.println(anObject + " bytes an object, " + aCall + " bytes a call (" + calls + " calls, " + answers + ")");
        if (anObject > MOST_BYTES_AN_OBJECT || aCall >= MOST_BYTES_A_CALL) {
            System.out.println("that is too much");
            System.exit(1);
        }
    }
}
