/** Promises 4, 6 and 8: shape, its FAULTS, and what leaf tells of the LEAVES. */
public final class ShapeTest {
    private static final Check CHECK = new Check("ShapeTest");

    public static void main(String[] args) {
        blanks();
        unfitBytes();
        words();
        names();
        limits();
        whatStays();
        leaves();
        CHECK.finish();
    }

    private static void blanks() {
        CHECK.dueLeaves("a num one;", 1);
        CHECK.dueLeaves("\n a\n\nnum  one\n;\n b word opt ; ", 2);
        CHECK.dueLeaves("a[b num one;]one;c word many;", 2);
        CHECK.dueLeaves(" a [ b num one ; c [ d word opt ; ] many ; ] one ; ", 2);
        CHECK.dueShapeFault("a\tnum one;", 1, 1);
        CHECK.dueShapeFault("a num\rone;", 1, 5);
    }

    private static void unfitBytes() {
        CHECK.dueShapeFault("5", 1, 0);
        CHECK.dueShapeFault(";", 1, 0);
        CHECK.dueShapeFault("]", 1, 0);
        CHECK.dueShapeFault("[", 1, 0);
        CHECK.dueShapeFault("A num one;", 1, 0);
        CHECK.dueShapeFault("{", 1, 0);
        CHECK.dueShapeFault("`", 1, 0);
        CHECK.dueShapeFault("a ;", 1, 2);
        CHECK.dueShapeFault("a ]", 1, 2);
        CHECK.dueShapeFault("a num ;", 1, 6);
        CHECK.dueShapeFault("a num one;;", 1, 10);
        CHECK.dueShapeFault("a num one ]", 1, 10);
        CHECK.dueShapeFault("a num [", 1, 6);
        CHECK.dueShapeFault("a num one [", 1, 10);
        CHECK.dueShapeFault("a num one b", 1, 10);
        CHECK.dueShapeFault("a num one; ]", 1, 11);
        CHECK.dueShapeFault("a [b num one;];", 1, 14);
        CHECK.dueShapeFault("a [b num one;]] one;", 1, 14);
        CHECK.dueShapeFault("a [b num one] one;", 1, 12);
        CHECK.dueShapeFault("a [[b num one;]", 1, 3);
        CHECK.dueShapeFault("a9 num one;", 1, 1);
    }

    private static void words() {
        CHECK.dueShapeFault("a", 1, 1);
        CHECK.dueShapeFault("a  ", 1, 3);
        CHECK.dueShapeFault("a num", 1, 5);
        CHECK.dueShapeFault("a num one", 1, 9);
        CHECK.dueShapeFault("a num one \n", 1, 11);
        CHECK.dueShapeFault("a [", 1, 3);
        CHECK.dueShapeFault("a [b num one;", 1, 13);
        CHECK.dueShapeFault("a [b num one;]", 1, 14);
        CHECK.dueShapeFault("a [b num one;] opt", 1, 18);
        CHECK.dueShapeFault("a nu", 1, 2);
        CHECK.dueShapeFault("a numb one;", 1, 2);
        CHECK.dueShapeFault("a numone;", 1, 2);
        CHECK.dueShapeFault("a one one;", 1, 2);
        CHECK.dueShapeFault("a abcdefghijkl one;", 1, 2);
        CHECK.dueShapeFault("a num num;", 1, 6);
        CHECK.dueShapeFault("a num manymanymany;", 1, 6);
        CHECK.dueShapeFault("a num on", 1, 6);
    }

    private static void names() {
        CHECK.dueLeaves("abcdefgh num one;", 1);
        CHECK.dueLeaves("z word many;", 1);
        CHECK.dueLeaves("zzzzzzzz word many; zzzzzzz num opt;", 2);
        CHECK.dueLeaves("nums num one; wor num one; ones num one; op num one; man num one;", 5);
        CHECK.dueShapeFault("abcdefghi num one;", 1, 8);
        CHECK.dueShapeFault("  abcdefghijklmnop", 1, 10);
        for (String word : new String[] {"num", "word", "one", "opt", "many"}) {
            CHECK.dueShapeFault(word + " num one;", 1, 0);
            CHECK.dueShapeFault("a [" + word + " num one;] one;", 1, 3);
        }
        CHECK.dueShapeFault("a num one; a word one;", 2, 11);
        CHECK.dueShapeFault("a num one; a", 2, 11);
        CHECK.dueShapeFault("a num one; a 5", 2, 11);
        CHECK.dueShapeFault("a [b num one; b num one;] one;", 2, 14);
        CHECK.dueShapeFault("a [b num one;] one; c num one; a", 2, 31);
        CHECK.dueShapeFault("abcdefgh num one; abcdefghi num one;", 1, 26);
        CHECK.dueLeaves("a [a num one; b num one;] one; b [a num one;] one;", 3);
        CHECK.dueLeaves("a num one; aa num one;", 2);
    }

    private static String leafTexts(int count) {
        StringBuilder out = new StringBuilder();
        for (int c = 0; c < count; c++) {
            out.append((char) ('a' + c)).append(" num one;");
        }
        return out.toString();
    }

    private static void limits() {
        CHECK.dueShapeFault("", 3, 0);
        CHECK.dueShapeFault(" \n ", 3, 3);
        CHECK.dueShapeFault("a[]", 3, 2);
        CHECK.dueShapeFault("a num one;b [ \n] one;", 3, 15);
        CHECK.dueLeaves(leafTexts(12), 12);
        CHECK.dueShapeFault(leafTexts(13), 3, 122);
        CHECK.dueShapeFault(leafTexts(12) + "m  word", 3, 123);
        CHECK.dueShapeFault(leafTexts(12) + "m int", 1, 122);
        CHECK.dueShapeFault(leafTexts(12) + "m [n num", 3, 125);
        CHECK.dueShapeFault(leafTexts(12) + "m [", 1, 123);
        CHECK.dueLeaves("a[b[c[d[e num one;]one;]opt;]many;]one;", 1);
        CHECK.dueShapeFault("a[b[c[d[e[f num one;]one;]one;]one;]one;]one;", 3, 9);
        CHECK.dueShapeFault("a[b[c[d[e num one;]one;f[g num one;h[", 3, 36);
        CHECK.dueLeaves("a[b[c[d[e num one;]one;e[f word many;]opt;]one;]one;]one;", 2);
    }

    private static void whatStays() {
        TreeTables x = Check.with("a num one; b word opt;", "a: 5;", "a: 6; b: z;");
        Check.load(x, "a num two;");
        CHECK.due("shape() with a FAULT", x.shape(), -1);
        CHECK.due("leaf(1, 4)", x.leaf(1, 4), 2);
        CHECK.due("leaf(2, 0)", x.leaf(2, 0), -1);
        CHECK.due("value(0, 1)", x.value(0, 1), 6);
        CHECK.due("end(1): the tape is gone", x.end(1), false);
        CHECK.due("text(1, 3)", Check.textOf(x, 1, 3), "a:6;b:z;");
        Check.load(x, "c word many;");
        CHECK.due("shape()", x.shape(), 1);
        CHECK.dueFault("shape() behind a FAULT", x, 0, -1);
        CHECK.due("leaf(0, 4): all PAPERS are gone", x.leaf(0, 4), 0);
        CHECK.due("leaf(1, 4)", x.leaf(1, 4), -1);
        CHECK.due("drop(0)", x.drop(0), -1);
        CHECK.due("the latest text stays", Check.latestText(x), "a:6;b:z;");
        CHECK.due("paper()", Check.add(x, "c: a;"), 1);
        Check.load(x, "c word many;");
        CHECK.due("the same SHAPE again", x.shape(), 1);
        CHECK.due("leaf(0, 4)", x.leaf(0, 4), 0);
    }

    private static void leaves() {
        TreeTables x = Check.with("a num one; b[c word opt; d[e num many; f[g word one; h num opt;] one;] many;] opt; i word many;");
        int[][] due = {{0, 0, 1, 0}, {2, 0, 0, 1}, {3, 2, 1, 2}, {2, 1, 0, 3}, {3, 1, 1, 3}, {1, 1, 0, 0}};
        for (int c = 0; c < due.length; c++) {
            for (int what = 0; what < 4; what++) {
                CHECK.due("leaf(" + c + ", " + what + ")", x.leaf(c, what), due[c][what]);
            }
            for (int what = 4; what < 8; what++) {
                CHECK.due("leaf(" + c + ", " + what + ") without PAPERS", x.leaf(c, what), 0);
            }
            CHECK.due("leaf(" + c + ", 8)", x.leaf(c, 8), -1);
            CHECK.due("leaf(" + c + ", -1)", x.leaf(c, -1), -1);
        }
        CHECK.due("leaf(6, 0)", x.leaf(6, 0), -1);
        CHECK.due("leaf(-1, 0)", x.leaf(-1, 0), -1);
        CHECK.due("leaf(least, least)", x.leaf(Integer.MIN_VALUE, Integer.MIN_VALUE), -1);
    }
}
