/** Promises 13 to 17, sentence by sentence: the asks at their bounds, and what they refuse. */
public final class AskBoundsTest {
    private static final Check CHECK = new Check("AskBoundsTest");
    private static final int[] NO_LEAVES = {3, 4, 11, 12, Integer.MAX_VALUE, -1, -2, Integer.MIN_VALUE};
    private static final String SHAPE = "a num many;w word opt;g[b num opt;]one;";
    private static final long LEAST = Long.MIN_VALUE;
    private static final long GREATEST = Long.MAX_VALUE;
    /** zzzzzzzz */
    private static final long LAST_WORD = 282429536480L;

    public static void main(String[] args) {
        fromUpTo();
        amongNone();
        papersSome();
        papersNone();
        sumOfOne();
        sumNone();
        bothFarthest();
        bothWithoutMany();
        bothEachTime();
        bothMayBeOne();
        bothNone();
        rowsAny();
        rowsNone();
        CHECK.finish();
    }

    private static void fromUpTo() {
        CHECK.sentence("13: How many VALUES of a LEAF are from least up to greatest");
        TreeTables x = Check.with(SHAPE, "a:-999999;a:0;a:5;a:5;a:999999;w:zzzzzzzz;g:[];", "g:[b:0;];", "a:5;w:a;g:[];");
        long[][] due = {{5, 5, 3}, {4, 4, 0}, {5, 6, 3}, {4, 5, 3}, {6, 7, 0}, {0, 4, 1}, {0, 5, 4}, {6, 5, 0}, {GREATEST, LEAST, 0}, {0, 0, 1},
            {-999999, 999999, 6}, {-999998, 999998, 4}, {-999999, -999999, 1}, {999999, 999999, 1}, {LEAST, GREATEST, 6}, {LEAST, LEAST, 0},
            {GREATEST, GREATEST, 0}, {LEAST, -999999, 1}, {999999, GREATEST, 1}, {1000000, GREATEST, 0}, {4294967301L, 4294967301L, 0}};
        for (long[] one : due) {
            CHECK.due("among(0, " + one[0] + ", " + one[1] + ")", x.among(0, one[0], one[1]), one[2]);
        }
        CHECK.due("the last word", x.among(1, LAST_WORD, LAST_WORD), 1);
        CHECK.due("below the last word", x.among(1, 2, LAST_WORD - 1), 0);
        CHECK.due("behind the last word", x.among(1, LAST_WORD + 1, GREATEST), 0);
        CHECK.due("the first word", x.among(1, 1, 1), 1);
        CHECK.due("ROWS without a VALUE are not 0", x.among(1, 0, 0), 0);
        CHECK.due("a VALUE 0 is", x.among(2, 0, 0), 1);
        CHECK.due("no PAPERS", Check.with(SHAPE).among(0, LEAST, GREATEST), 0);
    }

    private static void amongNone() {
        CHECK.sentence("13: among: NONE when there is none such");
        TreeTables x = Check.with(SHAPE, "a:1;g:[];");
        for (int c : NO_LEAVES) {
            CHECK.due("among(" + c + ", least, greatest)", x.among(c, LEAST, GREATEST), -1);
            CHECK.due("among(" + c + ", 1, 0)", x.among(c, 1, 0), -1);
        }
    }

    private static void papersSome() {
        CHECK.sentence("14: How many PAPERS have some such VALUE");
        TreeTables x = Check.with(SHAPE, "a:1;a:5;a:5;g:[];", "g:[b:0;];", "a:5;a:1;w:zzzzzzzz;g:[];", "a:0;g:[];");
        long[][] due = {{5, 5, 2}, {1, 5, 2}, {0, 5, 3}, {2, 4, 0}, {6, 9, 0}, {5, 1, 0}, {0, 0, 1}, {LEAST, GREATEST, 3}, {GREATEST, LEAST, 0},
            {LEAST, 0, 1}, {5, GREATEST, 2}, {6, GREATEST, 0}, {LEAST, -1, 0}};
        for (long[] one : due) {
            CHECK.due("papers(0, " + one[0] + ", " + one[1] + ")", x.papers(0, one[0], one[1]), one[2]);
        }
        CHECK.due("ROWS without a VALUE are not 0", x.papers(1, 0, 0), 0);
        CHECK.due("a VALUE 0 is", x.papers(2, 0, 0), 1);
        CHECK.due("the last word", x.papers(1, LAST_WORD, LAST_WORD), 1);
        CHECK.due("no PAPERS", Check.with(SHAPE).papers(0, LEAST, GREATEST), 0);
        TreeTables y = Check.with("a num opt;");
        for (int n = 0; n < 30; n++) {
            Check.add(y, "a:" + n + ";");
        }
        CHECK.due("30 PAPERS", y.papers(0, 0, 29), 30);
    }

    private static void papersNone() {
        CHECK.sentence("14: papers: NONE likewise");
        TreeTables x = Check.with(SHAPE, "a:1;g:[];");
        for (int c : NO_LEAVES) {
            CHECK.due("papers(" + c + ", least, greatest)", x.papers(c, LEAST, GREATEST), -1);
        }
    }

    private static void sumOfOne() {
        CHECK.sentence("15: The sum of all VALUES of a num LEAF in PAPER i (NONE: in all)");
        TreeTables x = Check.with(SHAPE, "a:1;a:-5;a:1;g:[b:7;];", "g:[];", "a:999999;a:999999;a:999999;w:z;g:[b:-999999;];");
        long[] due = {-3, 0, 2999997};
        for (int i = 0; i < 3; i++) {
            CHECK.due("sum(0, " + i + ")", x.sum(0, i), due[i]);
        }
        CHECK.due("sum(0, NONE)", x.sum(0, -1), 2999994);
        CHECK.due("sum(2, NONE)", x.sum(2, -1), -999992);
        CHECK.due("sum(0, NONE) without PAPERS", Check.with(SHAPE).sum(0, -1), 0);
        CHECK.sentence("15: (the least and the greatest sum that 30 full tapes tell)");
        TreeTables least = Check.with("a num many;");
        TreeTables greatest = Check.with("a num many;");
        for (int n = 0; n < 30; n++) {
            Check.add(least, "a:-999999;".repeat(40));
            Check.add(greatest, "a:999999;".repeat(44));
        }
        CHECK.due("sum(0, NONE)", least.sum(0, -1), -1199998800);
        CHECK.due("sum(0, 29)", least.sum(0, 29), -39999960);
        CHECK.due("sum(0, NONE)", greatest.sum(0, -1), 1319998680);
        CHECK.due("sum(0, 0)", greatest.sum(0, 0), 43999956);
    }

    private static void sumNone() {
        CHECK.sentence("15: sum: 0 when there is none such");
        TreeTables x = Check.with(SHAPE, "a:1;w:z;g:[b:7;];", "a:2;g:[];");
        for (int i : new int[] {2, 3, 30, Integer.MAX_VALUE, -2, -3, Integer.MIN_VALUE}) {
            CHECK.due("sum(0, " + i + ")", x.sum(0, i), 0);
        }
        for (int c : NO_LEAVES) {
            CHECK.due("sum(" + c + ", NONE)", x.sum(c, -1), 0);
            CHECK.due("sum(" + c + ", 0)", x.sum(c, 0), 0);
        }
        CHECK.due("a word LEAF", x.sum(1, -1), 0);
        CHECK.due("a word LEAF", x.sum(1, 0), 0);
    }

    private static void bothFarthest() {
        CHECK.sentence("16: Of the many that are on the roads to both LEAVES, the farthest one from the outside");
        TreeTables x = Check.with("g[a num opt;h[b num opt;c num opt;k[d num many;]one;]many;]many;",
            "g:[a:1;h:[b:2;c:3;k:[d:4;d:5;];];h:[b:6;k:[];];];g:[a:1;h:[c:3;b:6;k:[d:4;];];];");
        CHECK.due("b 2, c 3: in one h", x.both(1, 2, 2, 3), 1);
        CHECK.due("b 6, c 3: in one h, not in one g alone", x.both(1, 6, 2, 3), 1);
        CHECK.due("a 1, b 6: in one g", x.both(0, 1, 1, 6), 2);
        CHECK.due("a 1, d 5: in one g", x.both(0, 1, 3, 5), 1);
        CHECK.due("d 4, b 6: in one h", x.both(3, 4, 1, 6), 1);
        CHECK.due("d 4, c 3: in one h", x.both(3, 4, 2, 3), 2);
        TreeTables y = Check.with("g[h[b num many;]opt;k[c num many;]one;]many;", "g:[h:[b:1;b:2;];k:[c:3;c:4;];];g:[k:[c:3;];];g:[h:[b:1;];k:[];];");
        CHECK.due("b 2, c 4: a many of one road alone does not count", y.both(0, 2, 1, 4), 1);
        CHECK.due("b 1, c 3", y.both(0, 1, 1, 3), 1);
        TreeTables z = Check.with("g[o[a num many;b num many;]opt;]many;", "g:[o:[a:1;a:2;b:3;b:4;];];g:[];g:[o:[a:1;b:4;];];");
        CHECK.due("a 1, b 4: an opt behind the many does not count", z.both(0, 1, 1, 4), 2);
        CHECK.due("a 2, b 4", z.both(0, 2, 1, 4), 1);
    }

    private static void bothWithoutMany() {
        CHECK.sentence("16: without such a many: of each PAPER");
        TreeTables x = Check.with("a num many;b num many;o[c num opt;]opt;p[q[d num many;]many;]opt;",
            "a:1;a:2;b:3;o:[c:4;];p:[q:[d:5;];q:[d:6;];];", "a:2;b:3;b:3;", "a:1;o:[];p:[q:[];];", "");
        CHECK.due("a 2, b 3", x.both(0, 2, 1, 3), 2);
        CHECK.due("a 1, b 3", x.both(0, 1, 1, 3), 1);
        CHECK.due("a 1, c 4", x.both(0, 1, 2, 4), 1);
        CHECK.due("c 4, d 6", x.both(2, 4, 3, 6), 1);
        CHECK.due("c 4, c 4: one LEAF without a many", x.both(2, 4, 2, 4), 1);
        CHECK.due("c 0: a ROW without a VALUE has none", x.both(0, 1, 2, 0), 0);
        CHECK.due("0 and 0", x.both(0, 0, 1, 0), 0);
        CHECK.due("no PAPERS", Check.with(SHAPE).both(0, 1, 2, 1), 0);
        TreeTables y = Check.with("o[a num many;b num many;q[c num many;d num many;]opt;]opt;",
            "o:[a:1;a:2;b:3;b:4;q:[c:5;c:6;d:7;d:8;];];", "o:[a:1;b:3;q:[];];", "o:[a:1;];", "");
        CHECK.due("a 1, b 4: an opt on both roads is no many", y.both(0, 1, 1, 4), 1);
        CHECK.due("a 1, b 3", y.both(0, 1, 1, 3), 2);
        CHECK.due("c 5, d 8: nor are two", y.both(2, 5, 3, 8), 1);
        CHECK.due("a 2, d 7", y.both(0, 2, 3, 7), 1);
    }

    private static void bothEachTime() {
        CHECK.sentence("16: each time it is there");
        TreeTables x = Check.with("g[a num opt;b word opt;]many;", "g:[a:1;b:z;];g:[a:1;b:z;];g:[a:1;];g:[b:z;];g:[];", "", "g:[a:1;b:z;];",
            "g:[a:1;];g:[b:z;];");
        CHECK.due("a 1, b z", x.both(0, 1, 1, 26), 3);
        CHECK.due("b z, a 1", x.both(1, 26, 0, 1), 3);
        CHECK.due("a 1, b y", x.both(0, 1, 1, 25), 0);
        CHECK.due("a 26, b 1", x.both(0, 26, 1, 1), 0);
        CHECK.due("it lacks: 0 and 0", x.both(0, 0, 1, 0), 0);
        CHECK.due("far beyond", x.both(0, LEAST, 1, GREATEST), 0);
        CHECK.due("an int's worth beyond", x.both(0, 4294967297L, 1, 26), 0);
        TreeTables y = Check.with("g[a num one;b num one;]many;", "g:[a:0;b:0;];".repeat(30));
        CHECK.due("VALUES 0", y.both(0, 0, 1, 0), 30);
    }

    private static void bothMayBeOne() {
        CHECK.sentence("16: (they may be one)");
        TreeTables x = Check.with("a num many;g[b num one;]many;h[c num many;]many;", "a:1;a:2;a:1;g:[b:1;];g:[b:1;];h:[c:1;c:2;];h:[c:1;];", "a:1;");
        CHECK.due("a 1, a 1", x.both(0, 1, 0, 1), 3);
        CHECK.due("a 1, a 2", x.both(0, 1, 0, 2), 0);
        CHECK.due("b 1, b 1", x.both(1, 1, 1, 1), 2);
        CHECK.due("c 1, c 1", x.both(2, 1, 2, 1), 2);
        CHECK.due("c 1, c 2: the many is c itself", x.both(2, 1, 2, 2), 0);
        TreeTables y = Check.with("a num opt;", "a:1;", "a:1;", "");
        CHECK.due("a 1, a 1", y.both(0, 1, 0, 1), 2);
    }

    private static void bothNone() {
        CHECK.sentence("16: both: NONE when there are no such two");
        TreeTables x = Check.with(SHAPE, "a:1;g:[];");
        for (int c : NO_LEAVES) {
            CHECK.due("both(" + c + ", 1, 0, 1)", x.both(c, 1, 0, 1), -1);
            CHECK.due("both(0, 1, " + c + ", 1)", x.both(0, 1, c, 1), -1);
            CHECK.due("both(" + c + ", 1, " + c + ", 1)", x.both(c, 1, c, 1), -1);
        }
    }

    private static void rowsAny() {
        CHECK.sentence("17: How many ROWS of a LEAF have that LEVEL (NONE: any) and that TOLD (NONE: any)");
        TreeTables x = Check.with("g[a num many;b word one;]many;c num one;", "g:[a:1;a:2;b:x;];g:[b:y;];c:1;", "c:2;", "g:[b:z;];c:3;");
        CHECK.due("TABLE 0", Check.tableOf(x, 0), "0/0/2=1 0/2/2=2 0/1/1 1/0/0 2/0/1");
        int[][] due = {{5, 1, 2, 2, 0}, {3, 1, 1, 1, 0}, {1, 0, 1, 0, 0}, {1, 0, 0, 1, 0}, {0, 0, 0, 0, 0}};
        for (int level = -1; level <= 3; level++) {
            for (int told = -1; told <= 3; told++) {
                CHECK.due("rows(0, " + level + ", " + told + ")", x.rows(0, level, told), due[level + 1][told + 1]);
            }
        }
        CHECK.due("rows(2, NONE, NONE)", x.rows(2, -1, -1), 3);
        CHECK.due("rows(2, 0, 0)", x.rows(2, 0, 0), 3);
        CHECK.due("no PAPERS", Check.with(SHAPE).rows(0, -1, -1), 0);
        CHECK.sentence("17: (a LEVEL or TOLD that no ROW has)");
        for (int none : new int[] {-2, 6, Integer.MIN_VALUE, Integer.MAX_VALUE}) {
            CHECK.due("rows(0, " + none + ", NONE)", x.rows(0, none, -1), 0);
            CHECK.due("rows(0, NONE, " + none + ")", x.rows(0, -1, none), 0);
        }
    }

    private static void rowsNone() {
        CHECK.sentence("17: rows: NONE when there is none such");
        TreeTables x = Check.with(SHAPE, "a:1;g:[];");
        for (int c : NO_LEAVES) {
            CHECK.due("rows(" + c + ", NONE, NONE)", x.rows(c, -1, -1), -1);
            CHECK.due("rows(" + c + ", 0, 1)", x.rows(c, 0, 1), -1);
        }
    }
}
