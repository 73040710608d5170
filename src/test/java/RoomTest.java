import com.sun.management.ThreadMXBean;
import java.lang.management.ManagementFactory;

/** What the dearest calls make: next to nothing, as all calls of one run live in one room. */
public final class RoomTest {
    // Some 7.3 million elements of 4 bytes are the room; one object's whole life may take a fiftieth.
    private static final long MOST = 600_000;

    public static void main(String[] args) {
        // The first life loads classes, the second is counted.
        live();
        long took = live();
        System.out.println("RoomTest: 512 calls took " + took + " bytes");
        if (took > MOST) {
            System.exit(1);
        }
    }

    private static long live() {
        ThreadMXBean bean = (ThreadMXBean) ManagementFactory.getThreadMXBean();
        long thread = Thread.currentThread().getId();
        StringBuilder valley = new StringBuilder("valley 9 30");
        valley.append(";step 99".repeat(8)).append(";house 7 99".repeat(4)).append(";wall 0 1;path 0 7;need 30 7");
        String rule = "sweep snow" + "+1*1".repeat(29);
        long before = bean.getThreadAllocatedBytes(thread);
        SweptSnow x = new SweptSnow();
        for (int i = 0; i < 6; i++) {
            tell(x, rule);
            x.rule();
        }
        for (int i = 0; i < 9; i++) {
            tell(x, valley.toString());
            x.valley();
        }
        x.force(5);
        for (int i = 0; i < 15; i++) {
            ask(x);
        }
        return bean.getThreadAllocatedBytes(thread) - before;
    }

    private static void ask(SweptSnow x) {
        x.day();
        x.toss(0, 9);
        x.sweep(0, 0);
        x.thaw();
        x.image(0);
        x.back(0);
        x.ahead(0, 100, 0);
        x.stays(60);
        x.closes(0);
        x.ring(0);
        x.spare(0, 10, 0);
        x.figure(255, 0);
        x.way(0, 7, 0);
        x.pacts(30, 0);
        x.thrownOn(0, 60, 0);
        x.best(1, 30, 0);
        x.might(0, 30);
        x.note(1, 0, 90);
        x.ruled(0);
        x.look(60, 0);
        x.storms(10, 60, 100, 0);
    }

    private static void tell(SweptSnow x, String text) {
        for (int i = 0; i < text.length(); i += 20) {
            int a = 0;
            int b = 0;
            int c = 0;
            int d = 0;
            int e = 0;
            for (int j = 0; j < 4; j++) {
                a = a << 8 | at(text, i + j);
                b = b << 8 | at(text, i + 4 + j);
                c = c << 8 | at(text, i + 8 + j);
                d = d << 8 | at(text, i + 12 + j);
                e = e << 8 | at(text, i + 16 + j);
            }
            x.feed(a, b, c, d, e);
        }
        x.end(text.length());
    }

    private static int at(String text, int i) {
        return i < text.length() ? text.charAt(i) : 0;
    }
}
