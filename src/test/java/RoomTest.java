import com.sun.management.ThreadMXBean;
import java.lang.management.ManagementFactory;

/** All calls of a run live in one room: an object makes its rows once, and its calls make next to nothing. */
public final class RoomTest {
    private static final ThreadMXBean THREADS = (ThreadMXBean) ManagementFactory.getThreadMXBean();
    private static final String DEAR = "crown if [u0 and not u1 or not u0 and u1] and [u2 and not u3 or not u2 and u3]"
        + " or [u4 and not u5 or not u4 and u5] and [u6 and not u7 or not u6 and u7] or u8 and u9;";

    private RoomTest() {
    }

    public static void main(String[] args) {
        makeOne();
        long before = allocated();
        FoundThings x = makeOne();
        long made = allocated() - before;
        Check.due("an object takes less than 100,000 bytes", 1, made < 100000 ? 1 : 0);
        callAll(x);
        before = allocated();
        FoundThings y = makeOne();
        for (int i = 0; i < 10; i++) {
            callAll(y);
        }
        long used = allocated() - before;
        Check.due("its 512 calls take little more", 1, used < 400000 ? 1 : 0);
        System.out.println(made + " bytes for an object, " + used + " with its calls");
        Check.end();
    }

    private static long allocated() {
        return THREADS.getThreadAllocatedBytes(Thread.currentThread().getId());
    }

    private static FoundThings makeOne() {
        return new FoundThings();
    }

    private static void callAll(FoundThings x) {
        Check.feed(x, DEAR);
        x.law(DEAR.length());
        Check.feed(x, "u0 or u1 or u2;");
        x.holds(15);
        x.person(0, 7);
        x.find(0, 0, 60, 7, 1);
        x.hold(0, 0, 1, 1);
        x.claim(0, 0, 3);
        x.pass(0, 0, 0, 1);
        for (int unknown = 0; unknown < 10; unknown++) {
            x.know(unknown, 1);
            x.questions(0, 0);
            x.know(unknown, 2);
            x.questions(0, 0);
        }
        x.ask(0, 0);
        x.settles(0, 0);
        x.hangs(0, 0);
        x.part(0, 0, 4);
        x.late(0, 0);
        x.beside(0, 0);
        x.least(0, 0, 0);
        x.image();
        x.restore();
    }
}
