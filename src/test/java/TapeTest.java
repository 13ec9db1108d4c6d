/** Promises 1 to 3: a new object, feed, end. */
public final class TapeTest {
    private static final Check CHECK = new Check("TapeTest");

    public static void main(String[] args) {
        newObject();
        feeding();
        fullTape();
        ending();
        CHECK.finish();
    }

    private static void newObject() {
        TreeTables x = new TreeTables();
        CHECK.due("NONE", TreeTables.NONE, -1);
        CHECK.due("fault(0)", x.fault(0), 0);
        CHECK.due("fault(1)", x.fault(1), -1);
        CHECK.due("fault(2)", x.fault(2), -1);
        CHECK.due("fault(-1)", x.fault(-1), -1);
        CHECK.due("paper() without a SHAPE", x.paper(), -2);
        CHECK.due("drop(0)", x.drop(0), -1);
        CHECK.due("text(0, -1)", x.text(0, -1), -1);
        CHECK.due("at(0)", x.at(0), -1);
        CHECK.due("value(0, 0)", x.value(0, 0), 0);
        CHECK.due("row(0, 0, 0)", x.row(0, 0, 0), -1);
        CHECK.due("among", x.among(0, 0, 9), -1);
        CHECK.due("papers", x.papers(0, 0, 9), -1);
        CHECK.due("sum", x.sum(0, -1), 0);
        CHECK.due("both", x.both(0, 1, 0, 1), -1);
        CHECK.due("rows", x.rows(0, -1, -1), -1);
        for (int what = -1; what < 9; what++) {
            CHECK.due("leaf(0, " + what + ")", x.leaf(0, what), -1);
        }
        CHECK.due("end(0)", x.end(0), true);
        CHECK.due("end(1)", x.end(1), false);
    }

    private static void feeding() {
        TreeTables x = new TreeTables();
        // "a num one;" with the highest byte of each number first
        CHECK.due("feed", x.feed(0x61206e75, 0x6d206f6e, 0x653b2020, 0x0a0a0a0a, 0x20202020), 20);
        CHECK.due("shape()", x.shape(), 1);
        CHECK.due("feed behind shape()", x.feed(0, 0, 0, 0, 0), 20);
        CHECK.due("feed", x.feed(-1, -1, -1, -1, -1), 40);
        CHECK.due("shape()", x.shape(), -1);
        CHECK.dueFault("shape() of bytes 0", x, 1, 0);
        x.feed(0xe1e1e1e1, 0, 0, 0, 0);
        CHECK.due("shape()", x.shape(), -1);
        CHECK.dueFault("shape() of bytes above 127", x, 1, 0);
    }

    private static void fullTape() {
        TreeTables x = new TreeTables();
        for (int n = 1; n <= 20; n++) {
            CHECK.due("feed " + n, x.feed(0x20202020, 0x20202020, 0x20202020, 0x20202020, 0x20202020), 20 * n);
        }
        CHECK.due("feed past 400", x.feed(0, 0, 0, 0, 0), -1);
        CHECK.due("shape()", x.shape(), -1);
        CHECK.dueFault("400 blanks", x, 3, 400);
        for (int n = 1; n <= 20; n++) {
            x.feed(0x20202020, 0x20202020, 0x20202020, 0x20202020, 0x20202020);
        }
        CHECK.due("end(381)", x.end(381), true);
        CHECK.due("feed on 381", x.feed(0, 0, 0, 0, 0), -1);
        CHECK.due("end(380)", x.end(380), true);
        CHECK.due("feed on 380", x.feed(0x20202020, 0x20202020, 0x20202020, 0x20202020, 0x20202035), 400);
        CHECK.due("shape()", x.shape(), -1);
        CHECK.dueFault("a 5 as the 400th byte", x, 1, 399);
    }

    private static void ending() {
        TreeTables x = new TreeTables();
        x.feed(0x61206e75, 0x6d206f6e, 0x653b3535, 0x35353535, 0x35353535);
        CHECK.due("end(-1)", x.end(-1), false);
        CHECK.due("end(21)", x.end(21), false);
        CHECK.due("end(least)", x.end(Integer.MIN_VALUE), false);
        CHECK.due("end(greatest)", x.end(Integer.MAX_VALUE), false);
        CHECK.due("end(20)", x.end(20), true);
        CHECK.due("end(10)", x.end(10), true);
        CHECK.due("end(11)", x.end(11), false);
        CHECK.due("shape()", x.shape(), 1);
        CHECK.due("end(1) behind shape()", x.end(1), false);
        x.feed(0x61206e75, 0x6d206f6e, 0x653b3535, 0x35353535, 0x35353535);
        x.end(9);
        x.end(9);
        CHECK.due("feed behind end(9)", x.feed(0x3b202020, 0x20202020, 0x20202020, 0x20202020, 0x20202020), 29);
        CHECK.due("shape()", x.shape(), 1);
    }
}
