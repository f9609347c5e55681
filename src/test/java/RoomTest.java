import com.sun.management.ThreadMXBean;
import java.lang.management.ManagementFactory;

/** What the dearest runs make stays far inside the room, and no argument makes a call throw. */
public final class RoomTest {
    /** The room has some 7.3 million fields and elements; four bytes each at the least. */
    private static final long ROOM_BYTES = 7_300_000L * 4;
    private static final int[] EDGES = {Integer.MIN_VALUE, Integer.MIN_VALUE + 1, -100000, -100,
        -99, -2, -1, 0, 1, 2, 3, 7, 8, 11, 12, 13, 16, 17, 30, 31, 59, 60, 63, 64, 65, 255, 256,
        400, 401, 600, 601, 999, 1000, 1163, 60120, 99999, 100000, 100001, 240240,
        Integer.MAX_VALUE - 1, Integer.MAX_VALUE};

    public static void main(String[] args) {
        Check c = new Check();
        edgesOnNew(c);
        edgesOnFull(c);
        pastTheLastCall(c);
        room(c);
        c.end();
    }

    private static int callEach(ShadowBand x, int a, int b) {
        int sum = x.shot(a, b) + x.cue(a, b) + x.stretches() + x.stretch(a, b) + x.tenths(a, b)
            + x.piece(a, b, b, a) + x.piece(1, b, 0, 0) + x.piece(a, 60120, 0, 0)
            + x.block(a, b, a, b) + x.block(0, a, b, b) + x.block(b, 1, 3, a)
            + x.way(a, b) + x.along(a, b, a) + x.along(b, 1, a) + x.along(0, 1, a)
            + x.misfit(a, b, a) + x.misfit(0, a, b) + x.best(a, b) + x.step(a, b) + x.rule(a, b)
            + x.programme(a) + x.given(a, b);
        sum += x.begin() + x.go(a) + x.seen() + x.reel(a) + x.now(a) + x.played(a) + x.fees()
            + x.effect(a, b, 1) + x.effect(0, a, b) + x.hands(a) + x.free(a) + x.clash()
            + x.left() + x.count(a);
        return sum;
    }

    private static void edgesOnNew(Check c) {
        int sum = 0;
        for (int a : EDGES) {
            for (int b : EDGES) {
                sum += callEach(new ShadowBand(), a, b);
            }
        }
        c.hold("calls on new objects came back", sum != 1);
    }

    private static void edgesOnFull(Check c) {
        int sum = 0;
        for (int a : EDGES) {
            ShadowBand x = full(1, 8);
            for (int b : EDGES) {
                sum += callEach(x, a, b);
            }
        }
        c.hold("calls on full objects came back", sum != 1);
    }

    /** Answers are free behind the 512th call, but no call may throw or fail to end. */
    private static void pastTheLastCall(Check c) {
        ShadowBand x = full(1, 3);
        int sum = 0;
        for (int i = 0; i < 10000; i++) {
            sum += x.programme(12 + i % 19);
            sum += x.begin() + x.go(1 + i % 600) + x.seen();
        }
        for (int i = 0; i < 20000; i++) {
            sum += x.go(600);
        }
        c.hold("calls past the last one came back", sum != 1);
    }

    /** Twelve pieces, so many of them themes, of eight blocks; eight stretches. */
    private static ShadowBand full(int themes, int stretches) {
        ShadowBand x = new ShadowBand();
        for (int s = 0; s < stretches; s++) {
            x.shot(120 + s, 0);
            x.cue(s, 1);
        }
        for (int p = 0; p < 12; p++) {
            x.piece(100 * p + 1, 60060 + p, p < themes ? 1 : 0, p);
            for (int b = 0; b < 8; b++) {
                x.block(p, 5 + b + p, 3, 255);
            }
        }
        return x;
    }

    private static void room(Check c) {
        ThreadMXBean threads = (ThreadMXBean) ManagementFactory.getThreadMXBean();
        long id = Thread.currentThread().getId();
        for (int themes = 0; themes <= 12; themes++) {
            long before = threads.getThreadAllocatedBytes(id);
            ShadowBand x = full(themes, 8);
            for (int i = 0; i < 190; i++) {
                x.programme(12 + i % 19);
                x.begin();
            }
            long bytes = threads.getThreadAllocatedBytes(id) - before;
            c.hold("a run with " + themes + " themes made " + bytes + " bytes",
                bytes < ROOM_BYTES / 8);
        }
    }
}
