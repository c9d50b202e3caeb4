import com.sun.management.ThreadMXBean;
import java.lang.management.ManagementFactory;

/** All calls of a run live in one room: a call makes nothing anew, and a new object stays small. */
public final class RoomTest {
    private static final long MOST_FOR_AN_OBJECT = 80_000;
    private static final long MOST_FOR_CALLS = 1_000;
    private static long sum = 0;

    public static void main(String[] args) {
        ThreadMXBean bean = (ThreadMXBean) ManagementFactory.getThreadMXBean();
        // Once ahead, so that classes are loaded and constants made when it counts.
        calls(told(new LateMirror()));
        long thread = Thread.currentThread().getId();
        long before = bean.getThreadAllocatedBytes(thread);
        LateMirror x = new LateMirror();
        long made = bean.getThreadAllocatedBytes(thread) - before;
        before = bean.getThreadAllocatedBytes(thread);
        calls(told(x));
        long called = bean.getThreadAllocatedBytes(thread) - before;
        System.out.println("an object: " + made + " bytes, all kinds of calls: " + called + " bytes, sum " + sum);
        if (made > MOST_FOR_AN_OBJECT || called > MOST_FOR_CALLS) {
            System.out.println("that is too much");
            System.exit(1);
        }
    }

    private static LateMirror told(LateMirror x) {
        // deep 3;person 1;person 0;thing 1;rule:late=0 and bored>3 do fro;
        x.feed(0x64656570, 0x20333B70, 0x6572736F, 0x6E20313B, 0x70657273);
        x.feed(0x6F6E2030, 0x3B746869, 0x6E672031, 0x3B72756C, 0x653A6C61);
        x.feed(0x74653D30, 0x20616E64, 0x20626F72, 0x65643E33, 0x20646F20);
        x.feed(0x66726F3B, 0x20202020, 0x20202020, 0x20202020, 0x20202020);
        if (x.arcade(64) != 5) {
            System.out.println("the text was not read");
            System.exit(1);
        }
        return x;
    }

    private static void calls(LateMirror x) {
        x.numbers(0, 1, 5);
        for (int i = 0; i < 5; i++) x.write(0, i, -1);
        x.write(0, 4, 1);
        x.numbers(1, 1, 8);
        for (int i = 0; i < 8; i++) x.write(1, i, 1 + i);
        x.image(0);
        for (int i = 0; i < 3; i++) {
            for (int p = 0; p < 2; p++) {
                sum += x.person(p, 2) + x.copy(p, 4) + x.can(p, 3) + x.would(p, 3) + x.soonest(p, 0, 12, 0);
                sum += x.states(p, 4) + x.reach(p, 4) + x.meant(p, 0, 77) + x.maybe(p, 0, 2) + x.odds(p, 1, 1);
                sum += x.lends(p, 1 - p, 20 + p) + x.owes(p, 1 - p, true) + x.balance(p, true);
            }
            sum += x.thing(0) + x.fault(0) + x.step(7) + x.judge(1, 0) + x.perform(1) + x.day(i, 60) + x.fails(1, 0);
            sum += x.round(1, 0) + x.fits(1) + x.smallest(1, 0) + x.sure(1) + x.telling(1, 0) + x.win(60, 4, 3) + x.wins(4, 3);
            sum += x.clear() + x.payments() + x.lists(1) + x.undo(2) + x.count(5) + x.restore(0);
        }
    }
}
