import com.sun.management.ThreadMXBean;
import java.lang.management.ManagementFactory;
import java.util.Random;

/** The room that all calls of a run share: a new object is small, and no call makes anything. */
public final class RoomTest {
    private static final long MOST_BYTES_OF_AN_OBJECT = 100000;

    private static final ThreadMXBean THREADS = (ThreadMXBean) ManagementFactory.getThreadMXBean();

    public static void main(String[] args) {
        String text = "town 7 6;wall 3 0;wall 3 1;gate 6 0;gate 0 5;crowd 0 0 0 99 3 0;crowd 0 6 5 50 1 25;"
            + "crowd 1 2 2 10 2 0;crowd 1 4 4 10 1 0;crowd 2 5 0 1 3 1;crowd 2 0 4 30 2 10;tune 1 20;tune 2 3;tune 7 20;";
        byte[] bytes = text.getBytes(java.nio.charset.StandardCharsets.ISO_8859_1);
        HeardTunes warm = new HeardTunes();
        calls(warm, bytes, new Random(1));
        long before = made();
        HeardTunes x = new HeardTunes();
        long object = made() - before;
        Check.isTrue("a new object takes " + object + " bytes", object <= MOST_BYTES_OF_AN_OBJECT);
        Random random = new Random(2);
        before = made();
        long nothing = made() - before;
        before = made();
        int sum = calls(x, bytes, random);
        long calls = made() - before - nothing;
        // The machine itself makes a little now and then; a call that made one object would make far more.
        Check.isTrue("calls make " + calls + " bytes, the answers' sum being " + sum, calls < 2000);
        Check.end("RoomTest");
    }

    private static long made() {
        return THREADS.getCurrentThreadAllocatedBytes();
    }

    private static int calls(HeardTunes x, byte[] text, Random random) {
        int sum = 0;
        for (int round = 0; round < 20; round++) {
            for (byte one : text) {
                sum += x.feed(1, one);
            }
            sum += x.town() + x.fault();
            for (int i = 0; i < 30; i++) {
                sum += x.plan(random.nextInt(5), random.nextInt(4) - 1) + x.see(i % 6, 1 + i % 5, i % 7, i % 6);
            }
            sum += searches(x) + changes(x, random);
        }
        return sum;
    }

    private static int searches(HeardTunes x) {
        int sum = 0;
        for (int k = 0; k < 3; k++) {
            for (int t = 0; t < 3; t++) {
                sum += x.soonest(k, t, k) + x.walks(5, t, k) + x.tune(t, 2);
            }
            sum += x.bestWall(k, 0) + x.wax(k) + x.tried(k, 0) + x.where(k, 30) + x.judge();
        }
        return sum;
    }

    private static int changes(HeardTunes x, Random random) {
        int sum = x.keep(0) + x.keep(1) + x.drift(99) + x.goBack(0) + x.seed(random.nextInt(1000));
        for (int i = 0; i < 20; i++) {
            sum += x.minute(random.nextInt(5), random.nextInt(3)) + x.wall(random.nextInt(7), random.nextInt(6), i % 2 == 0);
            sum += x.far(0, 0, 6, 5) + x.cell(i % 7, i % 6) + x.crowd(i % 6, i % 7) + x.told(i % 13);
        }
        return sum + x.drop() + x.tear();
    }
}
