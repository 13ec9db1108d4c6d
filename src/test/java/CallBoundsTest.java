/** Promises 1 to 12, sentence by sentence: what each call refuses, and what then stays or goes. */
public final class CallBoundsTest {
    private static final Check CHECK = new Check("CallBoundsTest");
    private static final int BLANKS = 0x20202020;
    private static final int LEAST = Integer.MIN_VALUE;
    private static final int GREATEST = Integer.MAX_VALUE;
    private static final String SHAPE = "a num many;w word opt;g[b num opt;]one;";
    private static final String[] PAPERS = {"g:[];", "a:1;a:2;w:x;g:[b:3;];", "a:4;g:[];"};

    public static void main(String[] args) {
        newObject();
        feedCounts();
        feedOrder();
        feedBeyond();
        endWithin();
        endBeyond();
        shapeGoes();
        shapeFault();
        paperCounts();
        paperFault();
        paperRefused();
        faultAheadOfAny();
        faultOfTheLatest();
        dropWithin();
        dropNone();
        leafNone();
        rowNone();
        valueNone();
        textBits();
        textNone();
        atNone();
        CHECK.finish();
    }

    private static int feedBlanks(TreeTables x) {
        return x.feed(BLANKS, BLANKS, BLANKS, BLANKS, BLANKS);
    }

    /** A tape of 400 bytes: a SHAPE and blanks behind it. */
    private static TreeTables fullTape() {
        TreeTables x = new TreeTables();
        x.feed(0x61206e75, 0x6d206f6e, 0x653b2020, BLANKS, BLANKS);
        for (int n = 0; n < 19; n++) {
            feedBlanks(x);
        }
        return x;
    }

    private static void dueTapeLength(String behind, TreeTables x, int length) {
        CHECK.due("end(" + (length + 1) + ") behind " + behind, x.end(length + 1), false);
        CHECK.due("end(" + length + ") behind " + behind, x.end(length), true);
    }

    private static void newObject() {
        CHECK.sentence("1: No SHAPE");
        TreeTables x = new TreeTables();
        CHECK.due("leaf", x.leaf(0, 0), -1);
        CHECK.due("row", x.row(0, 0, 0), -1);
        CHECK.due("value", x.value(0, 0), 0);
        CHECK.due("text", x.text(0, -1), -1);
        CHECK.due("at", x.at(0), -1);
        CHECK.due("drop", x.drop(0), -1);
        CHECK.due("among", x.among(0, Long.MIN_VALUE, Long.MAX_VALUE), -1);
        CHECK.due("papers", x.papers(0, Long.MIN_VALUE, Long.MAX_VALUE), -1);
        CHECK.due("sum", x.sum(0, -1), 0);
        CHECK.due("both", x.both(0, 0, 0, 0), -1);
        CHECK.due("rows", x.rows(0, -1, -1), -1);
        CHECK.due("paper", x.paper(), -2);
        dueTapeLength("new", x, 0);
        CHECK.sentence("1: (each object has its own)");
        Check.with(SHAPE, PAPERS);
        CHECK.due("leaf", x.leaf(0, 0), -1);
        CHECK.due("paper", x.paper(), -2);
    }

    private static void feedCounts() {
        CHECK.sentence("2: Twenty bytes come behind those on the tape: how many there are");
        TreeTables x = new TreeTables();
        for (int n = 1; n <= 20; n++) {
            CHECK.due("feed " + n, feedBlanks(x), 20 * n);
        }
        dueTapeLength("20 feeds", x, 400);
        for (int n : new int[] {0, 1, 19, 20, 21, 379, 380}) {
            TreeTables y = fullTape();
            y.end(n);
            CHECK.due("feed behind " + n + " bytes", feedBlanks(y), n + 20);
        }
    }

    private static void feedOrder() {
        CHECK.sentence("2: of each number the highest first");
        TreeTables x = new TreeTables();
        x.feed(0x61626364, 0x65666768, 0x206e756d, 0x206d616e, 0x793b2020);
        CHECK.due("shape()", x.shape(), 1);
        x.feed(0x61626364, 0x65666768, 0x3a2d3132, 0x33343536, 0x3b202020);
        CHECK.due("paper()", x.paper(), 1);
        CHECK.due("value(0, 0)", x.value(0, 0), -123456);
        CHECK.due("TEXT", Check.textOf(x, 0, 1), "abcdefgh:-123456;");
        CHECK.sentence("2: (any bytes, those from 128 on too)");
        for (int shift = 0; shift < 32; shift += 8) {
            for (int number = 0; number < 5; number++) {
                int[] five = {BLANKS, BLANKS, BLANKS, BLANKS, BLANKS};
                five[number] ^= 0xc1 << shift;
                TreeTables y = new TreeTables();
                y.feed(five[0], five[1], five[2], five[3], five[4]);
                CHECK.due("shape() with a byte 225", y.shape(), -1);
                CHECK.dueFault("a byte 225", y, 1, 4 * number + 3 - shift / 8);
            }
        }
    }

    private static void feedBeyond() {
        CHECK.sentence("2: NONE, doing nothing, if there would be more than 400");
        TreeTables x = fullTape();
        CHECK.due("feed on 400", x.feed(0, 0, 0, 0, 0), -1);
        CHECK.due("feed on 400 again", x.feed(-1, -1, -1, -1, -1), -1);
        dueTapeLength("a refused feed", x, 400);
        CHECK.due("shape() of the tape as it was", x.shape(), 1);
        for (int n : new int[] {381, 382, 390, 399}) {
            TreeTables y = fullTape();
            y.end(n);
            CHECK.due("feed on " + n, y.feed(0, 0, 0, 0, 0), -1);
            dueTapeLength("a refused feed", y, n);
            CHECK.due("shape() of the tape as it was", y.shape(), 1);
        }
        TreeTables z = fullTape();
        z.end(380);
        CHECK.due("feed on 380", feedBlanks(z), 400);
        z.end(0);
        CHECK.due("feed when all is gone", feedBlanks(z), 20);
    }

    private static void endWithin() {
        CHECK.sentence("3: The tape has its first n bytes alone: true");
        for (int n : new int[] {400, 399, 21, 20, 10}) {
            TreeTables x = fullTape();
            CHECK.due("end(" + n + ")", x.end(n), true);
            dueTapeLength("end(" + n + ")", x, n);
            CHECK.due("shape()", x.shape(), 1);
        }
        TreeTables x = fullTape();
        CHECK.due("end(9)", x.end(9), true);
        CHECK.due("shape()", x.shape(), -1);
        CHECK.dueFault("shape() of 9 bytes", x, 1, 9);
        TreeTables y = fullTape();
        CHECK.due("end(0)", y.end(0), true);
        CHECK.due("end(0) again", y.end(0), true);
        CHECK.due("shape()", y.shape(), -1);
        CHECK.dueFault("shape() of no bytes", y, 3, 0);
        TreeTables z = fullTape();
        z.end(9);
        z.feed(0x3b62206e, 0x756d206f, 0x6e653b20, BLANKS, BLANKS);
        CHECK.due("shape(): bytes come behind the first 9", z.shape(), 2);
    }

    private static void endBeyond() {
        CHECK.sentence("3: false, doing nothing, if it has not so many, or n is below 0");
        TreeTables x = new TreeTables();
        CHECK.due("end(1) of an empty tape", x.end(1), false);
        for (int n : new int[] {401, 420, GREATEST, -1, -400, LEAST}) {
            TreeTables y = fullTape();
            CHECK.due("end(" + n + ")", y.end(n), false);
            dueTapeLength("a refused end", y, 400);
            CHECK.due("shape() of the tape as it was", y.shape(), 1);
        }
        x.feed(0x61206e75, 0x6d206f6e, 0x653b3535, BLANKS, BLANKS);
        x.end(10);
        CHECK.due("end(11): what has gone does not come back", x.end(11), false);
        CHECK.due("end(-1)", x.end(-1), false);
        CHECK.due("shape() of 10 bytes", x.shape(), 1);
    }

    private static void shapeGoes() {
        CHECK.sentence("4: The tape (it goes) is THE SHAPE (all PAPERS go): how many LEAVES");
        TreeTables x = Check.with(SHAPE, PAPERS);
        Check.load(x, SHAPE);
        CHECK.due("shape()", x.shape(), 3);
        dueTapeLength("shape()", x, 0);
        for (int c = 0; c < 3; c++) {
            for (int what = 4; what < 8; what++) {
                CHECK.due("leaf(" + c + ", " + what + ")", x.leaf(c, what), 0);
            }
            CHECK.due("row(" + c + ", 0, 0)", x.row(c, 0, 0), -1);
            CHECK.due("value(" + c + ", 0)", x.value(c, 0), 0);
        }
        CHECK.due("text(0, -1)", x.text(0, -1), -1);
        CHECK.due("drop(0)", x.drop(0), -1);
        CHECK.due("paper(): the first again", Check.add(x, "g:[];"), 1);
        Check.load(x, "z word one;");
        CHECK.due("shape() with fewer LEAVES", x.shape(), 1);
        CHECK.due("leaf(1, 0)", x.leaf(1, 0), -1);
        CHECK.due("leaf(0, 0)", x.leaf(0, 0), 0);
    }

    private static void shapeFault() {
        CHECK.sentence("4: -1 with a FAULT (all stays)");
        String[] faulty = {"", "a num two;", "a num one;a num one;", "a[]one;", "z num one;y num one;x num one;w num one;5", "z[y num many;]many;["};
        for (String text : faulty) {
            TreeTables x = Check.with(SHAPE, PAPERS);
            x.text(1, -1);
            String due = Check.pictureOf(x);
            Check.load(x, text);
            CHECK.due("shape() of '" + text + "'", x.shape(), -1);
            dueTapeLength("a FAULT", x, 0);
            CHECK.due("all behind '" + text + "'", Check.pictureOf(x), due);
            CHECK.due("TEXT", Check.textOf(x, 1, -1), "a:1;a:2;w:x;g:[b:3;];");
            CHECK.due("both", x.both(0, 1, 2, 3), 1);
            CHECK.due("the next paper() is read by the same SHAPE", Check.add(x, "a:9;g:[b:8;];"), 4);
            CHECK.due("drop(0)", x.drop(0), 3);
        }
        TreeTables y = new TreeTables();
        Check.load(y, "a num two;");
        CHECK.due("shape() with a FAULT", y.shape(), -1);
        CHECK.due("paper(): there is no SHAPE yet", y.paper(), -2);
    }

    private static void paperCounts() {
        CHECK.sentence("5: The tape (it goes) is a PAPER, behind all others: how many PAPERS");
        TreeTables x = Check.with("a num opt;");
        for (int n = 1; n <= 30; n++) {
            Check.load(x, "a:" + n + ";");
            CHECK.due("paper() " + n, x.paper(), n);
            dueTapeLength("paper()", x, 0);
            CHECK.due("value of the last", x.value(0, n - 1), n);
            CHECK.due("PAPER of the last", x.row(0, n - 1, 3), n - 1);
        }
        CHECK.due("value of the first", x.value(0, 0), 1);
        x.drop(29);
        CHECK.due("an empty tape is a PAPER, too", x.paper(), 30);
    }

    private static void paperFault() {
        CHECK.sentence("5: -1 with a FAULT");
        String[] faulty = {"", "a:5;a:6;g:[b:7;];;", "x:1;", "w:x;w:y;", "a:5;a:6;", "g:5;", "a:5;g:[b:6;];w:abcdefghi;"};
        for (String text : faulty) {
            TreeTables x = Check.with(SHAPE, PAPERS);
            x.text(1, -1);
            String due = Check.pictureOf(x);
            Check.load(x, text);
            CHECK.due("paper() of '" + text + "'", x.paper(), -1);
            dueTapeLength("a FAULT", x, 0);
            CHECK.due("all behind '" + text + "'", Check.pictureOf(x), due);
            CHECK.due("text(3, -1)", x.text(3, -1), -1);
            CHECK.due("paper()", Check.add(x, "g:[];"), 4);
            CHECK.due("TEXT", Check.textOf(x, 3, -1), "g:[];");
        }
    }

    private static void paperRefused() {
        CHECK.sentence("5: -2 without a SHAPE (the tape goes, too)");
        TreeTables x = fullTape();
        CHECK.due("paper() without a SHAPE", x.paper(), -2);
        dueTapeLength("-2", x, 0);
        CHECK.due("feed", feedBlanks(x), 20);
        CHECK.sentence("5: -2 when there are 30 (the tape goes, too)");
        TreeTables y = Check.with("a num many;");
        for (int n = 0; n < 30; n++) {
            Check.add(y, "a:" + n + ";");
        }
        String due = Check.pictureOf(y);
        for (String text : new String[] {"a:1;", "", "x"}) {
            Check.load(y, text);
            CHECK.due("a 31st paper()", y.paper(), -2);
            dueTapeLength("-2", y, 0);
            CHECK.due("all", Check.pictureOf(y), due);
        }
        CHECK.due("drop(0)", y.drop(0), 29);
        Check.load(y, "x");
        CHECK.due("paper() with a FAULT at 29", y.paper(), -1);
        Check.load(y, "a:77;");
        CHECK.due("paper() at 29", y.paper(), 30);
        CHECK.due("value", y.value(0, 29), 77);
    }

    private static void faultAheadOfAny() {
        CHECK.sentence("6: its FAULT (0; 0 without, and ahead of any), its place (1; NONE without)");
        TreeTables x = new TreeTables();
        CHECK.dueFault("new", x, 0, -1);
        x.paper();
        CHECK.dueFault("a refused paper()", x, 0, -1);
        Check.load(x, "a num one;");
        x.shape();
        CHECK.dueFault("shape()", x, 0, -1);
        Check.add(x, "a:1;");
        CHECK.dueFault("paper()", x, 0, -1);
        CHECK.sentence("6: NONE for another what");
        for (int what : new int[] {-1, 2, 3, 5, LEAST, GREATEST}) {
            CHECK.due("fault(" + what + ") without", x.fault(what), -1);
        }
        x.shape();
        CHECK.dueFault("shape()", x, 3, 0);
        for (int what : new int[] {-1, 2, 3, 5, LEAST, GREATEST}) {
            CHECK.due("fault(" + what + ") with one", x.fault(what), -1);
        }
    }

    private static void faultOfTheLatest() {
        CHECK.sentence("6: Of the latest shape(), or paper() that was not -2");
        TreeTables x = new TreeTables();
        Check.load(x, "a 5");
        x.shape();
        Check.load(x, "b");
        CHECK.due("paper() without a SHAPE", x.paper(), -2);
        CHECK.dueFault("-2", x, 1, 2);
        Check.load(x, "a num opt;");
        x.shape();
        CHECK.dueFault("shape()", x, 0, -1);
        Check.load(x, "a:x;");
        x.paper();
        feedBlanks(x);
        x.end(3);
        x.end(-1);
        x.drop(0);
        x.text(0, 1);
        x.leaf(7, 7);
        CHECK.dueFault("other calls", x, 5, 2);
        x.end(0);
        Check.load(x, "a num opt");
        x.shape();
        CHECK.dueFault("shape()", x, 1, 9);
        for (int n = 0; n < 30; n++) {
            x.paper();
        }
        CHECK.dueFault("paper()", x, 0, -1);
        Check.load(x, "x");
        CHECK.due("a 31st paper()", x.paper(), -2);
        CHECK.dueFault("-2", x, 0, -1);
        Check.load(x, "?");
        x.shape();
        CHECK.due("a 31st paper()", x.paper(), -2);
        CHECK.dueFault("-2", x, 1, 0);
    }

    private static void dropWithin() {
        CHECK.sentence("7: PAPER i goes; those behind move up: how many there are");
        String[] papers = {"a:1;g:[];", "a:2;a:3;g:[];", "g:[];", "a:4;g:[];"};
        String[] due = {"0/0/1=2 0/1/1=3 1/0/0 2/0/1=4", "0/0/1=1 1/0/0 2/0/1=4", "0/0/1=1 1/0/1=2 1/1/1=3 2/0/1=4", "0/0/1=1 1/0/1=2 1/1/1=3 2/0/0"};
        for (int i = 0; i < 4; i++) {
            TreeTables x = Check.with(SHAPE, papers);
            CHECK.due("drop(" + i + ")", x.drop(i), 3);
            CHECK.due("TABLE 0", Check.tableOf(x, 0), due[i]);
            CHECK.due("text(3, -1)", x.text(3, -1), -1);
            for (int j = 0; j < 3; j++) {
                CHECK.due("text(" + j + ", -1)", Check.textOf(x, j, -1), papers[j < i ? j : j + 1]);
            }
        }
        TreeTables y = Check.with(SHAPE, papers);
        for (int left = 3; left >= 0; left--) {
            CHECK.due("drop(0)", y.drop(0), left);
        }
        CHECK.due("TABLE 0", Check.tableOf(y, 0), "");
        CHECK.due("paper()", Check.add(y, "g:[];"), 1);
    }

    private static void dropNone() {
        CHECK.sentence("7: NONE when there is none such");
        TreeTables x = Check.with(SHAPE, PAPERS);
        x.text(1, -1);
        String due = Check.pictureOf(x);
        for (int i : new int[] {3, 4, 30, GREATEST, -1, -2, LEAST}) {
            CHECK.due("drop(" + i + ")", x.drop(i), -1);
            CHECK.due("all behind drop(" + i + ")", Check.pictureOf(x), due);
        }
        CHECK.due("paper(): none has gone", Check.add(x, "g:[];"), 4);
        CHECK.due("drop(0) without PAPERS", Check.with(SHAPE).drop(0), -1);
        CHECK.due("drop(0) without a SHAPE", new TreeTables().drop(0), -1);
    }

    private static void leafNone() {
        CHECK.sentence("8: leaf: NONE when there is none such, or for others");
        TreeTables x = Check.with(SHAPE, PAPERS);
        for (int what = 0; what < 8; what++) {
            CHECK.due("leaf(2, " + what + ") is there", x.leaf(2, what) >= 0, true);
            for (int c : new int[] {3, 11, 12, GREATEST, -1, -2, LEAST}) {
                CHECK.due("leaf(" + c + ", " + what + ")", x.leaf(c, what), -1);
            }
        }
        for (int what : new int[] {8, 9, GREATEST, -1, -2, LEAST}) {
            CHECK.due("leaf(0, " + what + ")", x.leaf(0, what), -1);
        }
        CHECK.sentence("8: 0 DEEP, 1 AGAIN, 2 num or word, 3 GROUPS, 4 ROWS, 5 with a VALUE, 6 unlike VALUES, 7 SIZE");
        int[][] due = {{1, 1, 1, 0, 4, 3, 3, 6 + 4 + 24 + 1}, {1, 0, 0, 0, 3, 1, 1, 6 + 8}, {1, 0, 1, 1, 3, 1, 1, 6 + 8}};
        for (int c = 0; c < 3; c++) {
            for (int what = 0; what < 8; what++) {
                CHECK.due("leaf(" + c + ", " + what + ")", x.leaf(c, what), due[c][what]);
            }
        }
    }

    private static void rowNone() {
        CHECK.sentence("9: row: NONE when there is none such, or for others");
        TreeTables x = Check.with(SHAPE, PAPERS);
        for (int what = 0; what < 4; what++) {
            CHECK.due("row(0, 3, " + what + ") is there", x.row(0, 3, what) >= 0, true);
            for (int k : new int[] {4, 5, 16, GREATEST, -1, -2, LEAST}) {
                CHECK.due("row(0, " + k + ", " + what + ")", x.row(0, k, what), -1);
            }
            CHECK.due("row(1, 3, " + what + ")", x.row(1, 3, what), -1);
            for (int c : new int[] {3, 12, GREATEST, -1, LEAST}) {
                CHECK.due("row(" + c + ", 0, " + what + ")", x.row(c, 0, what), -1);
            }
        }
        for (int what : new int[] {4, 5, GREATEST, -1, LEAST}) {
            CHECK.due("row(0, 0, " + what + ")", x.row(0, 0, what), -1);
        }
        CHECK.due("row(0, 0, 0) without PAPERS", Check.with(SHAPE).row(0, 0, 0), -1);
        CHECK.sentence("9: 0 LEVEL, 1 TOLD, 2 whether it has a VALUE (1, 0), 3 its PAPER");
        int[][] due = {{0, 0, 0, 0}, {0, 1, 1, 1}, {1, 1, 1, 1}, {0, 1, 1, 2}};
        for (int k = 0; k < 4; k++) {
            for (int what = 0; what < 4; what++) {
                CHECK.due("row(0, " + k + ", " + what + ")", x.row(0, k, what), due[k][what]);
            }
        }
    }

    private static void valueNone() {
        CHECK.sentence("10: value: 0 when it has none, or there is none such");
        TreeTables x = Check.with(SHAPE, "a:5;a:6;w:x;g:[b:7;];", "g:[];");
        CHECK.due("value(0, 1)", x.value(0, 1), 6);
        for (int c = 0; c < 3; c++) {
            int last = c == 0 ? 2 : 1;
            CHECK.due("value(" + c + ", " + last + ") of a ROW without one", x.value(c, last), 0);
            for (int k : new int[] {last + 1, last + 2, 16, GREATEST, -1, LEAST}) {
                CHECK.due("value(" + c + ", " + k + ")", x.value(c, k), 0);
            }
        }
        for (int c : new int[] {3, 12, GREATEST, -1, LEAST}) {
            CHECK.due("value(" + c + ", 0)", x.value(c, 0), 0);
        }
        x.drop(0);
        CHECK.due("value(0, 1): gone", x.value(0, 1), 0);
        CHECK.due("value(0, 0): without one, where there was one", x.value(0, 0), 0);
    }

    private static void textBits() {
        CHECK.sentence("11: for the LEAVES that bits tell (others are not looked at): how many bytes");
        String twelve = "a num one;b num one;c num one;d num one;e num one;f num one;g num one;h num one;i num one;j num one;k num one;l num one;";
        TreeTables x = Check.with(twelve, "a:1;b:2;c:3;d:4;e:5;f:6;g:7;h:8;i:9;j:10;k:11;l:12;");
        CHECK.due("text(0, 0)", x.text(0, 0), 0);
        CHECK.due("text(0, -1)", x.text(0, -1), 51);
        CHECK.due("text(0, 4095)", x.text(0, 4095), 51);
        CHECK.due("bits beyond the LEAVES", x.text(0, ~4095), 0);
        CHECK.due("the highest bit", x.text(0, LEAST), 0);
        CHECK.due("all but the highest bit", x.text(0, GREATEST), 51);
        for (int bit = 0; bit < 32; bit++) {
            String due = bit < 12 ? (char) ('a' + bit) + ":" + (bit + 1) + ";" : "";
            CHECK.due("bit " + bit, Check.textOf(x, 0, 1 << bit), due);
        }
        CHECK.due("the first and the last", Check.textOf(x, 0, 0x801), "a:1;l:12;");
        CHECK.sentence("11: TEXT of PAPER i (and of none beside it)");
        String[] papers = {"a:1;a:2;w:x;g:[b:3;];", "a:4;a:5;w:y;g:[b:6;];", "a:7;w:z;g:[b:8;];"};
        String[] ofA = {"a:1;a:2;", "a:4;a:5;", "a:7;"};
        TreeTables y = Check.with(SHAPE, papers);
        for (int i = 0; i < 3; i++) {
            CHECK.due("text(" + i + ", -1)", Check.textOf(y, i, -1), papers[i]);
            CHECK.due("text(" + i + ", 1)", Check.textOf(y, i, 1), ofA[i]);
            CHECK.due("text(" + i + ", 2)", Check.textOf(y, i, 2), "w:" + "xyz".charAt(i) + ";");
            CHECK.due("text(" + i + ", 4)", Check.textOf(y, i, 4), "g:[b:" + "368".charAt(i) + ";];");
        }
    }

    private static void textNone() {
        CHECK.sentence("11: text: NONE when there is none such");
        TreeTables x = Check.with(SHAPE, PAPERS);
        x.text(1, -1);
        String due = Check.pictureOf(x);
        for (int i : new int[] {3, 4, 30, GREATEST, -1, -2, LEAST}) {
            CHECK.due("text(" + i + ", -1)", x.text(i, -1), -1);
            CHECK.due("text(" + i + ", 0)", x.text(i, 0), -1);
            CHECK.due("all stays", Check.pictureOf(x), due);
        }
        CHECK.due("text(2, -1)", x.text(2, -1), 9);
        CHECK.due("text(0, -1) without PAPERS", Check.with(SHAPE).text(0, -1), -1);
    }

    private static void atNone() {
        CHECK.sentence("12: at: NONE when there is none such");
        TreeTables x = Check.with(SHAPE, PAPERS);
        CHECK.due("at(0) ahead of any", x.at(0), -1);
        CHECK.due("text(2, 1)", x.text(2, 1), 4);
        for (int k : new int[] {4, 5, 399, 400, GREATEST, -1, -2, LEAST}) {
            CHECK.due("at(" + k + ")", x.at(k), -1);
        }
        CHECK.due("at(0)", x.at(0), 'a');
        CHECK.due("at(3)", x.at(3), ';');
        CHECK.sentence("12: Byte k of the latest text() that was not refused");
        CHECK.due("a refused text()", x.text(3, -1), -1);
        CHECK.due("TEXT", Check.latestText(x), "a:4;");
        CHECK.due("a longer text()", x.text(1, -1), 21);
        CHECK.due("a shorter text()", x.text(2, 1), 4);
        CHECK.due("TEXT: nothing of the longer one", Check.latestText(x), "a:4;");
        x.drop(2);
        CHECK.due("TEXT behind drop", Check.latestText(x), "a:4;");
        Check.load(x, "z num one;");
        x.shape();
        CHECK.due("TEXT behind shape", Check.latestText(x), "a:4;");
        Check.add(x, "z:1;");
        CHECK.due("TEXT behind paper", Check.latestText(x), "a:4;");
        CHECK.due("an empty text()", x.text(0, 0), 0);
        CHECK.due("at(0) of an empty one", x.at(0), -1);
    }
}
