import java.util.Random;

/** Any arguments in any state: every call answers, and what it refuses changes nothing that it should not. */
public final class NeverThrowsTest {
    private static final Check CHECK = new Check("NeverThrowsTest");
    private static final int[] EDGES = {Integer.MIN_VALUE, -13, -2, -1, 0, 1, 2, 3, 4, 7, 8, 11, 12, 13, 29, 30, 31, 400, Integer.MAX_VALUE};
    private static final long[] LONG_EDGES = {Long.MIN_VALUE, -1, 0, 1, 2, 29, 282429536480L, Long.MAX_VALUE};
    private static final String[] TEXTS = {"a num many;", "g[a num opt;b[c word many;]many;]many;n num one;", "a:1;a:2;", "n:1;",
        "g:[a:1;b:[c:x;c:y;];b:[];];g:[];n:5;", "g[", "a:", "]]]]", "", "a[a[a[a[a num many;]many;]many;]many;]opt;", "a:[a:[a:[a:[a:1;];];];];"};

    public static void main(String[] args) {
        int calls = 0;
        for (int seed = 0; seed < 400; seed++) {
            Random random = new Random(seed);
            TreeTables x = new TreeTables();
            for (int n = 0; n < 700; n++) {
                call(x, random);
                calls++;
            }
        }
        CHECK.due("calls that answered", calls, 280000);
        CHECK.finish();
    }

    private static void call(TreeTables x, Random random) {
        int a = EDGES[random.nextInt(EDGES.length)];
        int b = EDGES[random.nextInt(EDGES.length)];
        int c = EDGES[random.nextInt(EDGES.length)];
        long v = LONG_EDGES[random.nextInt(LONG_EDGES.length)];
        long w = LONG_EDGES[random.nextInt(LONG_EDGES.length)];
        switch (random.nextInt(20)) {
            case 0 -> x.feed(random.nextInt(), a, b, c, random.nextInt());
            case 1 -> x.end(a);
            case 2 -> x.shape();
            case 3 -> x.paper();
            case 4 -> x.fault(a);
            case 5 -> x.drop(a);
            case 6 -> x.leaf(a, b);
            case 7 -> x.row(a, b, c);
            case 8 -> x.value(a, b);
            case 9 -> x.text(a, b);
            case 10 -> x.at(a);
            case 11 -> x.among(a, v, w);
            case 12 -> x.papers(a, v, w);
            case 13 -> x.sum(a, b);
            case 14 -> x.both(a, v, b, w);
            case 15 -> x.rows(a, b, c);
            default -> {
                x.end(0);
                Check.load(x, TEXTS[random.nextInt(TEXTS.length)]);
                if (random.nextInt(4) == 0) {
                    x.shape();
                } else {
                    x.paper();
                }
            }
        }
    }
}
