import com.sun.management.ThreadMXBean;
import java.lang.management.ManagementFactory;

/**
 * What calls make, as all calls of one run live in one room: a new object its rows, each RULE and the first IMAGE of
 * each number something once, and all other calls nothing at all.
 */
public final class RoomTest {
    private static final int CALLS = 512;
    // The room is some 7.3 million elements, of 4 bytes mostly: more than a thousand objects find place in it.
    private static final long NEW_MOST = 24_000;
    private static final long ONCE_MOST = 24_000;
    // What the measuring itself may take; a call that made the least object each time would take far more.
    private static final long NOTHING = 1_000;

    private static final String RULE = "sweep snow" + "+1*1".repeat(29);
    private static final String VALLEY = "valley 9 30" + ";step 99".repeat(8) + ";house 7 99".repeat(4)
        + ";wall 0 1;path 0 7;need 30 7";
    private static final ThreadMXBean BEAN = (ThreadMXBean) ManagementFactory.getThreadMXBean();

    private static int wrong;

    private final long thread = Thread.currentThread().getId();
    private final boolean counted;
    private int calls;

    private RoomTest(boolean counted) {
        this.counted = counted;
    }

    public static void main(String[] args) {
        // The first lives load classes and texts, the last one is counted.
        for (int i = 0; i < 3; i++) {
            new RoomTest(i == 2).live();
        }
        if (wrong != 0) {
            System.exit(1);
        }
    }

    private long taken() {
        return BEAN.getThreadAllocatedBytes(thread);
    }

    private void judge(String what, long bytes, long most) {
        if (counted) {
            System.out.println("RoomTest: " + what + " took " + bytes + " bytes");
            wrong += bytes > most ? 1 : 0;
        }
    }

    private void live() {
        long before = taken();
        SweptSnow x = new SweptSnow();
        judge("a new object", taken() - before, NEW_MOST);
        before = taken();
        tellRulesAndImages(x);
        judge("six rules and four images", taken() - before, ONCE_MOST);
        int first = calls;
        before = taken();
        while (calls < CALLS) {
            dear(x);
        }
        judge((calls - first) + " other calls", taken() - before, NOTHING);
        before = taken();
        for (int i = 0; i < CALLS; i++) {
            x.valley();
        }
        judge(CALLS + " faulty valleys", taken() - before, NOTHING);
    }

    private void tellRulesAndImages(SweptSnow x) {
        for (int i = 0; i < 6; i++) {
            tell(x, RULE);
            x.rule();
            calls++;
        }
        for (int i = 0; i < 4; i++) {
            x.image(i);
            calls++;
        }
    }

    private void dear(SweptSnow x) {
        x.rule();
        tell(x, VALLEY);
        x.valley();
        x.valley();
        x.force(5);
        calls += 4;
        act(x);
        ask(x);
    }

    private void act(SweptSnow x) {
        x.day();
        x.toss(0, 9);
        x.sweep(0, 0);
        x.pull(0);
        x.thaw();
        x.undo();
        x.image(0);
        x.back(0);
        x.note(1, 0, 90);
        x.seed(7);
        x.step(0, 5);
        x.house(0, 2);
        x.count(9);
        calls += 13;
    }

    private void ask(SweptSnow x) {
        x.ahead(0, 100, 0);
        x.stays(60);
        x.closes(0);
        x.ring(0);
        x.spare(0, 10, 0);
        x.figure(255, 0);
        x.way(0, 7, 0);
        x.pacts(30, 0);
        x.thrownOn(0, 60, 0);
        x.best(1, 30, 0);
        x.might(0, 30);
        x.ruled(0);
        x.look(60, 0);
        x.storms(10, 60, 100, 0);
        calls += 14;
    }

    /** Makes nothing itself, so that what the calls make is counted alone. */
    private void tell(SweptSnow x, String text) {
        for (int i = 0; i < text.length(); i += 20) {
            x.feed(four(text, i), four(text, i + 4), four(text, i + 8), four(text, i + 12), four(text, i + 16));
            calls++;
        }
        x.end(text.length());
        calls++;
    }

    private static int four(String text, int from) {
        int number = 0;
        for (int i = from; i < from + 4; i++) {
            number = number << 8 | (i < text.length() ? text.charAt(i) : ' ');
        }
        return number;
    }
}
