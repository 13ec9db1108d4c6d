/** Promises 13 to 17: among, papers, sum, both, rows. */
public final class AsksTest {
    private static final Check CHECK = new Check("AsksTest");

    public static void main(String[] args) {
        amongAndPapers();
        sums();
        bothOfOnePaper();
        bothOfOneMany();
        bothOfOneLeaf();
        bothInDeepGroups();
        countedRows();
        CHECK.finish();
    }

    private static void amongAndPapers() {
        TreeTables x = Check.with("a num many; w word opt;", "a: 1; a: 5; a: 5;", "", "a: -3; w: ab;", "a: 5; w: zzzzzzzz;");
        long least = Long.MIN_VALUE;
        long greatest = Long.MAX_VALUE;
        CHECK.due("among all", x.among(0, least, greatest), 5);
        CHECK.due("papers all", x.papers(0, least, greatest), 3);
        CHECK.due("among 5", x.among(0, 5, 5), 3);
        CHECK.due("papers 5", x.papers(0, 5, 5), 2);
        CHECK.due("among -3 .. 1", x.among(0, -3, 1), 2);
        CHECK.due("papers -3 .. 1", x.papers(0, -3, 1), 2);
        CHECK.due("among 0: a ROW without a VALUE has none", x.among(0, 0, 0), 0);
        CHECK.due("papers 0", x.papers(0, 0, 0), 0);
        CHECK.due("among 5 .. 1", x.among(0, 5, 1), 0);
        CHECK.due("papers 5 .. 1", x.papers(0, 5, 1), 0);
        CHECK.due("among words", x.among(1, 29, 29), 1);
        CHECK.due("among words", x.among(1, 30, 282429536480L), 1);
        CHECK.due("papers words", x.papers(1, 29, greatest), 2);
        CHECK.due("among words below", x.among(1, 30, 282429536479L), 0);
        for (int c : new int[] {2, 12, -1, Integer.MIN_VALUE, Integer.MAX_VALUE}) {
            CHECK.due("among of LEAF " + c, x.among(c, least, greatest), -1);
            CHECK.due("papers of LEAF " + c, x.papers(c, least, greatest), -1);
        }
    }

    private static void sums() {
        TreeTables x = Check.with("a num many; w word opt; g [b num one;] many;", "a: 1; a: 5; g: [b: 999999;]; g: [b: 999999;];", "w: a;",
            "a: -30; a: 4;");
        CHECK.due("sum(0, NONE)", x.sum(0, -1), -20);
        CHECK.due("sum(0, 0)", x.sum(0, 0), 6);
        CHECK.due("sum(0, 1)", x.sum(0, 1), 0);
        CHECK.due("sum(0, 2)", x.sum(0, 2), -26);
        CHECK.due("sum(0, 3)", x.sum(0, 3), 0);
        CHECK.due("sum(0, -2)", x.sum(0, -2), 0);
        CHECK.due("sum of a word", x.sum(1, -1), 0);
        CHECK.due("sum of a word", x.sum(1, 1), 0);
        CHECK.due("sum(2, 0)", x.sum(2, 0), 1999998);
        CHECK.due("sum(3, NONE)", x.sum(3, -1), 0);
        CHECK.due("sum(-1, NONE)", x.sum(-1, -1), 0);
    }

    private static void bothOfOnePaper() {
        TreeTables x = Check.with("a num many; b word opt; g [c num many;] one;", "a: 1; a: 2; b: x; g: [c: 7;];", "a: 1; g: [];",
            "a: 2; a: 1; b: x; g: [c: 8; c: 7;];");
        CHECK.due("a 1, b x", x.both(0, 1, 1, 24), 2);
        CHECK.due("b x, a 1", x.both(1, 24, 0, 1), 2);
        CHECK.due("a 1, b y", x.both(0, 1, 1, 25), 0);
        CHECK.due("a 1, c 7: no many is on both roads", x.both(0, 1, 2, 7), 2);
        CHECK.due("c 8, a 2", x.both(2, 8, 0, 2), 1);
        CHECK.due("a 0: a ROW without a VALUE has none", x.both(0, 1, 1, 0), 0);
        CHECK.due("b x, b x", x.both(1, 24, 1, 24), 2);
        CHECK.due("no such LEAF", x.both(0, 1, 3, 1), -1);
        CHECK.due("no such LEAF", x.both(3, 1, 0, 1), -1);
        CHECK.due("no such LEAF", x.both(-1, 1, 0, 1), -1);
        CHECK.due("no such LEAF", x.both(0, 1, -1, 1), -1);
    }

    private static void bothOfOneMany() {
        TreeTables x = Check.with("g [k word one; n num opt; m [o num one;] many;] many; z num opt;",
            "g: [k: a; n: 1; m: [o: 5;]; m: [o: 6;];]; g: [k: a; n: 2;]; g: [k: b; n: 1; m: [o: 6;];]; z: 9;", "",
            "g: [k: a; n: 1;]; g: [k: a; n: 1;]; z: 9;");
        CHECK.due("k a, n 1", x.both(0, 1, 1, 1), 3);
        CHECK.due("k b, n 1", x.both(0, 2, 1, 1), 1);
        CHECK.due("k b, n 2: in two of g", x.both(0, 2, 1, 2), 0);
        CHECK.due("k a, o 6", x.both(0, 1, 2, 6), 1);
        CHECK.due("o 6, n 1", x.both(2, 6, 1, 1), 2);
        CHECK.due("k a, z 9: of each PAPER", x.both(0, 1, 3, 9), 2);
    }

    private static void bothOfOneLeaf() {
        TreeTables x = Check.with("a num many; g [k word one;] many; o num opt;", "a: 1; a: 2; a: 1; g: [k: a;]; g: [k: b;]; o: 4;", "a: 1; o: 4;");
        CHECK.due("a 1, a 1: each a", x.both(0, 1, 0, 1), 3);
        CHECK.due("a 1, a 2: no a is both", x.both(0, 1, 0, 2), 0);
        CHECK.due("k a, k a", x.both(1, 1, 1, 1), 1);
        CHECK.due("k a, k b", x.both(1, 1, 1, 2), 0);
        CHECK.due("o 4, o 4", x.both(2, 4, 2, 4), 2);
    }

    private static void bothInDeepGroups() {
        TreeTables x = Check.with("a [b [c [d num many; e num opt;] one; f num many;] many; h num one;] many;",
            "a: [b: [c: [d: 1; d: 2; e: 3;]; f: 4; f: 5;]; b: [c: [d: 1;]; f: 4;]; h: 7;];"
            + "a: [h: 7;]; a: [b: [c: []; f: 5;]; b: [c: [d: 2; e: 3;];]; h: 8;];");
        CHECK.due("d 1, e 3: in one b", x.both(0, 1, 1, 3), 1);
        CHECK.due("d 2, e 3", x.both(0, 2, 1, 3), 2);
        CHECK.due("d 1, f 4", x.both(0, 1, 2, 4), 2);
        CHECK.due("d 2, f 5", x.both(0, 2, 2, 5), 1);
        CHECK.due("d 2, h 8: in one a", x.both(0, 2, 3, 8), 1);
        CHECK.due("f 4, h 7", x.both(2, 4, 3, 7), 1);
        CHECK.due("h 7, f 5", x.both(3, 7, 2, 5), 1);
        CHECK.due("f 5, h 8", x.both(2, 5, 3, 8), 1);
    }

    private static void countedRows() {
        TreeTables x = Check.with("a [b num many;] many;", "a: [b: 1; b: 2;]; a: []; a: [b: 3;];", "", "a: [];");
        CHECK.due("TABLE", Check.tableOf(x, 0), "0/0/2=1 0/2/2=2 0/1/1 0/1/2=3 1/0/0 2/0/1");
        int[][] due = {{6, 1, 2, 3, 0}, {3, 1, 1, 1, 0}, {2, 0, 1, 1, 0}, {1, 0, 0, 1, 0}, {0, 0, 0, 0, 0}};
        for (int level = -1; level < 4; level++) {
            for (int told = -1; told < 4; told++) {
                CHECK.due("rows(0, " + level + ", " + told + ")", x.rows(0, level, told), due[level + 1][told + 1]);
            }
        }
        CHECK.due("rows(0, -2, -1)", x.rows(0, -2, -1), 0);
        CHECK.due("rows(0, -1, -2)", x.rows(0, -1, -2), 0);
        CHECK.due("rows(1, -1, -1)", x.rows(1, -1, -1), -1);
        CHECK.due("rows(-1, -1, -1)", x.rows(-1, -1, -1), -1);
    }
}
