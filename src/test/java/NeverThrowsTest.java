import java.util.Random;

/**
 * Any arguments in any state: every call answers, asks change nothing, and neither do calls that are refused.
 * A twin gets the calls that change something alone, and must stay like the object that gets them all.
 */
public final class NeverThrowsTest {
    private static final Check CHECK = new Check("NeverThrowsTest");
    private static final int[] EDGES = {Integer.MIN_VALUE, -13, -2, -1, 0, 1, 2, 3, 4, 7, 8, 11, 12, 13, 29, 30, 31, 381, 400, Integer.MAX_VALUE};
    private static final long[] LONG_EDGES = {Long.MIN_VALUE, -1, 0, 1, 2, 29, 282429536480L, Long.MAX_VALUE};
    private static final String[] TEXTS = {"a num many;", "g[a num opt;b[c word many;]many;]many;n num one;", "a:1;a:2;", "n:1;",
        "g:[a:1;b:[c:x;c:y;];b:[];];g:[];n:5;", "g[", "a:", "]]]]", "", "a[a[a[a[a num many;]many;]many;]many;]opt;", "a:[a:[a:[a:[a:1;];];];];"};

    private final Random random;
    private final TreeTables x = new TreeTables();
    private final TreeTables twin = new TreeTables();

    private NeverThrowsTest(int seed) {
        random = new Random(seed);
    }

    public static void main(String[] args) {
        for (int seed = 0; seed < 400; seed++) {
            new NeverThrowsTest(seed).run(seed);
        }
        CHECK.finish();
    }

    private void run(int seed) {
        for (int n = 0; n < 700; n++) {
            switch (random.nextInt(4)) {
                case 0 -> change();
                case 1 -> readText();
                default -> ask();
            }
            if (n % 100 == 0) {
                compare("call " + n + " of seed " + seed);
            }
        }
        compare("the end of seed " + seed);
    }

    private void compare(String behind) {
        CHECK.due("all behind " + behind, Check.pictureOf(x), Check.pictureOf(twin));
        CHECK.dueFault(behind, x, twin.fault(0), twin.fault(1));
    }

    private int edge() {
        return EDGES[random.nextInt(EDGES.length)];
    }

    private long longEdge() {
        return LONG_EDGES[random.nextInt(LONG_EDGES.length)];
    }

    private void change() {
        int a = edge();
        int b = edge();
        switch (random.nextInt(6)) {
            case 0 -> {
                // Often enough that a tape is full now and then, also one that end has cut.
                for (int n = random.nextInt(25); n >= 0; n--) {
                    feed(a, b);
                }
            }
            case 1 -> {
                if (x.end(a)) {
                    CHECK.due("the twin's end", twin.end(a), true);
                }
            }
            case 2 -> CHECK.due("the twin's shape()", twin.shape(), x.shape());
            case 3 -> CHECK.due("the twin's paper()", twin.paper(), x.paper());
            case 4 -> {
                int answer = x.drop(a);
                if (answer != TreeTables.NONE) {
                    CHECK.due("the twin's drop", twin.drop(a), answer);
                }
            }
            default -> {
                int answer = x.text(a, b);
                if (answer != TreeTables.NONE) {
                    CHECK.due("the twin's text", twin.text(a, b), answer);
                }
            }
        }
    }

    private void feed(int a, int b) {
        int answer = x.feed(a, b, a, b, a);
        if (answer != TreeTables.NONE) {
            CHECK.due("the twin's feed", twin.feed(a, b, a, b, a), answer);
        }
    }

    private void readText() {
        String text = TEXTS[random.nextInt(TEXTS.length)];
        boolean isShape = random.nextInt(4) == 0;
        for (TreeTables one : new TreeTables[] {x, twin}) {
            one.end(0);
            Check.load(one, text);
            if (isShape) {
                one.shape();
            } else {
                one.paper();
            }
        }
    }

    private void ask() {
        int a = edge();
        int b = edge();
        int c = edge();
        long v = longEdge();
        long w = longEdge();
        switch (random.nextInt(10)) {
            case 0 -> x.fault(a);
            case 1 -> x.leaf(a, b);
            case 2 -> x.row(a, b, c);
            case 3 -> x.value(a, b);
            case 4 -> x.at(a);
            case 5 -> x.among(a, v, w);
            case 6 -> x.papers(a, v, w);
            case 7 -> x.sum(a, b);
            case 8 -> x.both(a, v, b, w);
            default -> x.rows(a, b, c);
        }
    }
}
