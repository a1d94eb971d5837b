import java.lang.management.ManagementFactory;

/**
 * A run of 512 calls makes little: all of a run must live in a room of 7.3 million fields and elements. Each of them
 * takes a byte or more; we stay far below that.
 */
public final class RoomTest {
    private static final long MOST_BYTES = 1_000_000;

    public static void main(String[] args) {
        Checks c = new Checks();
        com.sun.management.ThreadMXBean bean = (com.sun.management.ThreadMXBean) ManagementFactory.getThreadMXBean();
        long before = bean.getThreadAllocatedBytes(Thread.currentThread().getId());
        int told = wideRun();
        long wide = bean.getThreadAllocatedBytes(Thread.currentThread().getId()) - before;
        told += deepRun();
        long deep = bean.getThreadAllocatedBytes(Thread.currentThread().getId()) - before - wide;
        if (told < 0 || wide > MOST_BYTES || deep > MOST_BYTES) {
            c.fail("512 calls made " + wide + " and " + deep + " bytes, the most is " + MOST_BYTES);
        }
        c.end();
    }

    /** Many entries, and the whole looked at anew again and again. */
    private static int wideRun() {
        IndexSort x = new IndexSort();
        int sum = 0;
        for (int k = 0; k < 80; k++) {
            sum += x.entry(0, -1);
            sum += x.sign(k, 'a' + k % 26);
        }
        for (int k = 0; k < 75; k++) {
            sum += x.style(k < 3 ? '|' : 'x');
        }
        for (int k = 0; k < 92; k++) {
            sum += x.rule(0, k % 2 == 0);
            sum += x.row(0, 2);
            sum += x.print();
        }
        return sum;
    }

    /** Many pages of one row. */
    private static int deepRun() {
        IndexSort x = new IndexSort();
        int sum = 0;
        for (int k = 0; k < 10; k++) {
            sum += x.entry(0, -1);
        }
        for (int k = 0; k < 167; k++) {
            sum += x.page(k % 10, 1, 99999 - 2 * k);
            sum += x.row(0, 2);
            sum += x.told(-1, 0);
        }
        return sum;
    }
}
