import com.sun.management.ThreadMXBean;
import java.lang.management.ManagementFactory;

/** The dearest calls make no objects: all rows are made with the shaper itself. */
final class RoomTest {
    private static final long BYTES_OF_ONE = 120000;
    private static final long BYTES_OF_CALLS = 20000;

    private RoomTest() {
    }

    private static RefundShaper shaper(String text) {
        RefundShaper shaper = new RefundShaper();
        Texts.append(shaper, text);
        return shaper;
    }

    private static long calls(RefundShaper shaper, int length, int rounds) {
        long sum = shaper.parse(length);
        for (int i = 0; i < rounds; i++) {
            sum += shaper.run(200) + shaper.dropsIn(200) + shaper.deliveredIn(0, 200) + shaper.firstDrop();
            sum += shaper.calmIn() + shaper.bestThreshold(30) + shaper.neededCapacity(10) + shaper.culprit(50);
            sum += shaper.unfairest() + shaper.report() + shaper.checksum() + shaper.undo() + shaper.dropRow(3);
            sum += shaper.total(0) + shaper.mostYielding() + (long) (1000 * shaper.fairnessOfPrograms());
            sum += (shaper.saveSnapshot(0) ? 1 : 0) + shaper.restoreSnapshot(0) + shaper.append(1, 2, 3, 4, 5);
        }
        return sum;
    }

    private static String dearText() {
        StringBuilder text = new StringBuilder("link 3000 50 0 0 1;");
        for (char c = 'a'; c < 'g'; c++) {
            text.append("house ").append(c).append(" 99999 99999;");
            text.append("program ").append(c).append(" copying ").append(c).append(" 0 999 500 50 10 5;");
            text.append("program ").append((char) (c + 6)).append(" meek ").append(c).append(" 9 999 999 9 0 5;");
        }
        return text.toString();
    }

    public static void main(String[] arguments) {
        ThreadMXBean meter = (ThreadMXBean) ManagementFactory.getThreadMXBean();
        long thread = Thread.currentThread().getId();
        String text = dearText();
        long sum = calls(shaper(text), text.length(), 2);
        long start = meter.getThreadAllocatedBytes(thread);
        RefundShaper measured = shaper(text);
        long made = meter.getThreadAllocatedBytes(thread);
        sum += calls(measured, text.length(), 20);
        long called = meter.getThreadAllocatedBytes(thread);
        System.out.println("RoomTest: " + (made - start) + " bytes made, " + (called - made) + " by calls, sum " + sum);
        if (meter.isThreadAllocatedMemorySupported() && meter.isThreadAllocatedMemoryEnabled()) {
            Check.due("few bytes are made with one shaper: " + (made - start), true, made - start < BYTES_OF_ONE);
            Check.due("few bytes are made by calls: " + (called - made), true, called - made < BYTES_OF_CALLS);
        }
        Check.end("RoomTest");
    }
}
