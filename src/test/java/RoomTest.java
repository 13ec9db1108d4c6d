import java.lang.management.ManagementFactory;

/** What a run makes stays far below the room of 600,000 objects and 7.3 million fields and elements. */
public final class RoomTest {
    private static final Check CHECK = new Check("RoomTest");
    private static final com.sun.management.ThreadMXBean BEAN =
        (com.sun.management.ThreadMXBean) ManagementFactory.getThreadMXBean();

    public static void main(String[] args) {
        // The first object loads the classes, which take room of their own.
        fill(new TreeTables());
        long ahead = BEAN.getCurrentThreadAllocatedBytes();
        TreeTables x = new TreeTables();
        long made = BEAN.getCurrentThreadAllocatedBytes() - ahead;
        System.out.println("RoomTest: a new object takes " + made + " bytes");
        CHECK.due("a new object takes 20,000 bytes at most", made <= 20000, true);

        ahead = BEAN.getCurrentThreadAllocatedBytes();
        fill(x);
        made = BEAN.getCurrentThreadAllocatedBytes() - ahead;
        System.out.println("RoomTest: 512 calls that lay the most ROWS take " + made + " bytes");
        CHECK.due("they take 4,000,000 bytes at most", made <= 4000000, true);

        ahead = BEAN.getCurrentThreadAllocatedBytes();
        for (int n = 0; n < 512; n++) {
            x.text(0, -1);
            x.shape();
            x.paper();
        }
        made = BEAN.getCurrentThreadAllocatedBytes() - ahead;
        System.out.println("RoomTest: 512 times text, shape and paper take " + made + " bytes");
        CHECK.due("they take 1,000,000 bytes at most", made <= 1000000, true);
        CHECK.finish();
    }

    /** Twelve LEAVES in a many, 80 of it in each PAPER, by 512 calls. */
    private static void fill(TreeTables x) {
        feedBytes(x, SHAPE);
        x.shape();
        for (int n = 0; n < 24; n++) {
            feedBytes(x, PAPER);
            x.paper();
        }
        CHECK.due("ROWS", x.leaf(11, 4), 24 * 80);
    }

    private static final byte[] SHAPE = bytes("g[a num opt;b num opt;c num opt;d num opt;e num opt;f num opt;g num opt;h num opt;"
        + "i num opt;j num opt;k num opt;l num opt;]many;");
    private static final byte[] PAPER = bytes("g:[];".repeat(80));

    private static byte[] bytes(String text) {
        String padded = text + " ".repeat((20 - text.length() % 20) % 20);
        return padded.getBytes(java.nio.charset.StandardCharsets.ISO_8859_1);
    }

    private static void feedBytes(TreeTables x, byte[] from) {
        for (int k = 0; k < from.length; k += 20) {
            x.feed(number(from, k), number(from, k + 4), number(from, k + 8), number(from, k + 12), number(from, k + 16));
        }
    }

    private static int number(byte[] from, int k) {
        return from[k] << 24 | from[k + 1] << 16 | from[k + 2] << 8 | from[k + 3];
    }
}
