import com.sun.management.ThreadMXBean;
import java.lang.management.ManagementFactory;

/** What a full object takes, and that asking takes nothing: all calls of a run live in one room. */
final class RoomTest {
    private static final ThreadMXBean THREADS = (ThreadMXBean) ManagementFactory.getThreadMXBean();

    private static long taken() {
        return THREADS.getCurrentThreadAllocatedBytes();
    }

    public static void main(String[] args) {
        // Once before it counts, since the machine loads its classes then.
        ask(full());
        dearest();
        taken();
        long start = taken();
        BodySolids x = full();
        long made = taken();
        long sum = ask(x);
        long asked = taken();
        Due.yes("a full object takes less than 200,000 bytes, not " + (made - start), made - start < 200_000);
        Due.yes("asking takes less than 1,000 bytes, not " + (asked - made), asked - made < 1_000);
        Due.yes("the answers were made use of", sum != 0);
        start = taken();
        dearest();
        made = taken();
        // An object or array takes 16 bytes at least, a field or element one: far less than 600,000 and 7.3 million of them.
        Due.yes("the dearest run takes less than 300,000 bytes, not " + (made - start), made - start < 300_000);
        Due.end();
    }

    private static BodySolids full() {
        BodySolids x = new BodySolids(1);
        int body = x.body();
        for (int i = 0; i < 12; i++) {
            long far = 20 * i;
            x.corner(far + 1, 0);
            x.corner(far + 2, 0);
            x.corner(far + 3, 1);
            x.corner(far + 3, 2);
            x.corner(far + 2, 3);
            x.corner(far + 1, 3);
            x.corner(far, 2);
            x.corner(far, 1);
            x.prism(body, i, 1);
        }
        int none = x.body();
        for (int i = 0; i < 30; i++) {
            x.join(body, none);
            x.place(body, i, 4 * i, i % 4, i % 2);
            x.keepOut(i, i, i + 1, i + 1, i % 2, 20_000);
        }
        return x;
    }

    /** As much as 512 calls can tell: 30 bodies of 12 solids, each told by itself, 30 placements and 10 keep-outs. */
    private static void dearest() {
        BodySolids x = new BodySolids(0);
        for (int i = 0; i < 30; i++) {
            x.body();
            x.place(i, 100 * i, 0, 0, 0);
            for (int j = 0; j < 12; j++) {
                x.box(i, 0, 0, 0, 4, 4, 4);
            }
        }
        for (int i = 0; i < 92; i++) {
            x.keepOut(0, 0, 1, 1, 0, 0);
        }
    }

    private static long ask(BodySolids x) {
        long sum = 0;
        for (int i = 0; i < 25; i++) {
            x.move(i, 2 * i, 3 * i, 0, 0);
            sum += x.clash(i, 0) + x.clashes() + x.pair(i, 0) + x.breaks(i) + x.bound(i, 2) + x.section(3, i, 4) + x.mass(0);
            x.body();
            x.join(0, 1);
            x.box(0, 0, 0, 0, 1, 1, 1);
        }
        return sum;
    }
}
