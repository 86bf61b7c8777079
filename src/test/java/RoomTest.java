import java.lang.management.ManagementFactory;

/** What 512 calls on one object make fits in the room they have: far less than 7.3 million. */
public final class RoomTest {
    // An object's rows take some 160 KiB: twice that would not do if calls made rows of their own.
    private static final long MOST_BYTES = 320L << 10;

    public static void main(String[] args) {
        run();
        com.sun.management.ThreadMXBean threads =
            (com.sun.management.ThreadMXBean) ManagementFactory.getThreadMXBean();
        long id = Thread.currentThread().getId();
        long before = threads.getThreadAllocatedBytes(id);
        run();
        long made = threads.getThreadAllocatedBytes(id) - before;
        System.out.println(made + " bytes made by one run");
        Due.holds(made + " bytes are within " + MOST_BYTES, made <= MOST_BYTES);
        Due.close();
    }

    /** At most 512 calls; the text is < a {a;b }"a" 0xab -12 > over and over, which is read. */
    private static void run() {
        TextTerms x = new TextTerms();
        for (int i = 0; i < 200; i++) {
            x.feed(0x61207B61, 0x3B62207D, 0x22612220, 0x30786162, 0x202D3132);
        }
        for (int i = 0; i < 150; i++) {
            x.read();
        }
        Due.same("count", x.count(), 1400);
        for (int i = 0; i < 30; i++) {
            x.word(i);
            x.part(i, i % 3);
            x.length(i);
            x.argument(0, 200 * i);
            x.isNegative(i);
        }
    }
}
