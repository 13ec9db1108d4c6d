/** Promises 8, 9 and 10: TABLES, their ROWS and VALUES, and what leaf counts in them. */
public final class RowsTest {
    private static final Check CHECK = new Check("RowsTest");

    public static void main(String[] args) {
        roadOfTheDocument();
        entriesInAnyOrder();
        lackingOnTheRoad();
        optBelowMany();
        words();
        counts();
        sizes();
        wrongInputs();
        CHECK.finish();
    }

    private static void roadOfTheDocument() {
        TreeTables x = Check.with("a [b [c num many;] many;] one;", "a: [b: [c: 1; c: 2;]; b: []; b: [c: 3;];];", "a: [];");
        CHECK.due("TABLE", Check.tableOf(x, 0), "0/0/2=1 0/2/2=2 0/1/1 0/1/2=3 1/0/0");
    }

    private static void entriesInAnyOrder() {
        TreeTables x = Check.with("a num many; b num many;", "b: 1; a: 2; b: 3; a: 4; b: 5;");
        CHECK.due("TABLE 0", Check.tableOf(x, 0), "0/0/1=2 0/1/1=4");
        CHECK.due("TABLE 1", Check.tableOf(x, 1), "0/0/1=1 0/1/1=3 0/1/1=5");
        TreeTables y = Check.with("g [a num many; h [b num opt;] opt;] many;", "g: [h: [b: 7;]; a: 1; a: 2;]; g: [a: 3; h: [];]; g: [];");
        CHECK.due("TABLE 0", Check.tableOf(y, 0), "0/0/2=1 0/2/2=2 0/1/2=3 0/1/1");
        CHECK.due("TABLE 1", Check.tableOf(y, 1), "0/0/3=7 0/1/2 0/1/1");
    }

    private static void lackingOnTheRoad() {
        String shape = "a [b [c [d [e num opt;] many;] opt;] many;] opt;";
        TreeTables x = Check.with(shape, "", "a: [];", "a: [b: [];];", "a: [b: [c: [];];];", "a: [b: [c: [d: [];];];];",
            "a: [b: [c: [d: [e: 9;];];];];");
        CHECK.due("TABLE", Check.tableOf(x, 0), "0/0/0 1/0/1 2/0/2 3/0/3 4/0/4 5/0/5=9");
        TreeTables y = Check.with(shape, "a: [b: [c: [d: []; d: [e: 1;]; d: [];];]; b: []; b: [c: [];]; b: [c: [d: [e: 2;];];];];");
        CHECK.due("TABLE", Check.tableOf(y, 0), "0/0/4 0/2/5=1 0/2/4 0/1/2 0/1/3 0/1/5=2");
    }

    private static void optBelowMany() {
        TreeTables x = Check.with("g [k word one; n num opt; m num many;] many;", "g: [k: a;]; g: [k: b; n: 2;]; g: [k: c; m: 3; m: 4;];", "");
        CHECK.due("TABLE 0", Check.tableOf(x, 0), "0/0/1=1 0/1/1=2 0/1/1=3 1/0/0");
        CHECK.due("TABLE 1", Check.tableOf(x, 1), "0/0/1 0/1/2=2 0/1/1 1/0/0");
        CHECK.due("TABLE 2", Check.tableOf(x, 2), "0/0/1 0/1/1 0/1/2=3 0/2/2=4 1/0/0");
    }

    private static void words() {
        TreeTables x = Check.with("a word many; n num many;", "a: a; a: z; a: ab; a: ba; a: zzzzzzzz; a: aaaaaaaa;",
            "n: 0; n: -0; n: 007; n: 999999; n: -999999; n: -000001;");
        CHECK.due("a", x.value(0, 0), 1);
        CHECK.due("z", x.value(0, 1), 26);
        CHECK.due("ab", x.value(0, 2), 29);
        CHECK.due("ba", x.value(0, 3), 55);
        CHECK.due("zzzzzzzz", x.value(0, 4), 282429536480L);
        CHECK.due("aaaaaaaa", x.value(0, 5), 10862674480L);
        CHECK.due("nothing", x.value(0, 6), 0);
        CHECK.due("TABLE 1", Check.tableOf(x, 1), "0/0/0 1/0/1=0 1/1/1=0 1/1/1=7 1/1/1=999999 1/1/1=-999999 1/1/1=-1");
    }

    private static void counts() {
        TreeTables x = Check.with("a num many; b word opt;", "a: 1; a: 0; a: 1; b: x;", "", "a: 0; a: -1;", "b: x;");
        CHECK.due("ROWS", x.leaf(0, 4), 7);
        CHECK.due("with a VALUE", x.leaf(0, 5), 5);
        CHECK.due("unlike", x.leaf(0, 6), 3);
        CHECK.due("ROWS", x.leaf(1, 4), 4);
        CHECK.due("with a VALUE", x.leaf(1, 5), 2);
        CHECK.due("unlike", x.leaf(1, 6), 1);
    }

    private static void sizes() {
        TreeTables x = Check.with("a num many; b word opt; c num one; d [e num one;] opt;");
        CHECK.due("no ROWS", x.leaf(0, 7), 0);
        Check.add(x, "c: 1;");
        CHECK.due("many without VALUES", x.leaf(0, 7), 4);
        CHECK.due("opt without VALUES", x.leaf(1, 7), 2);
        CHECK.due("one VALUE of one takes no bits", x.leaf(2, 7), 8);
        CHECK.due("one in an opt", x.leaf(3, 7), 2);
        Check.add(x, "c: 2; d: [e: 5;]; b: a; a: 1; a: 2; a: 3;");
        CHECK.due("3 unlike by 2 bits", x.leaf(0, 7), 2 * 2 + 2 * 2 + 24 + 1);
        CHECK.due("opt", x.leaf(1, 7), 4 + 8);
        CHECK.due("2 unlike by 1 bit", x.leaf(2, 7), 16 + 1);
        CHECK.due("one in an opt", x.leaf(3, 7), 4 + 8);
        Check.add(x, "c: 1; a: 4; a: 4;");
        CHECK.due("4 unlike by 2 bits, 10 bits in all", x.leaf(0, 7), 2 * 4 + 2 * 2 + 32 + 2);
        Check.add(x, "c: 1; a: 5;");
        CHECK.due("5 unlike by 3 bits, 18 bits in all", x.leaf(0, 7), 2 * 5 + 2 * 2 + 40 + 3);
        TreeTables y = Check.with("n num one;");
        for (int n = 0; n < 9; n++) {
            Check.add(y, "n: " + n + ";");
        }
        CHECK.due("9 unlike by 4 bits", y.leaf(0, 7), 72 + 5);
        y.drop(0);
        CHECK.due("8 unlike by 3 bits", y.leaf(0, 7), 64 + 3);
    }

    private static void wrongInputs() {
        TreeTables x = Check.with("a num opt; b word one;", "b: a;", "b: b; a: 5;");
        CHECK.due("row(0, 0, 2)", x.row(0, 0, 2), 0);
        CHECK.due("value(0, 0)", x.value(0, 0), 0);
        CHECK.due("row(0, 1, 2)", x.row(0, 1, 2), 1);
        CHECK.due("row(0, 1, 3)", x.row(0, 1, 3), 1);
        CHECK.due("row(0, 2, 0)", x.row(0, 2, 0), -1);
        CHECK.due("row(0, -1, 0)", x.row(0, -1, 0), -1);
        CHECK.due("row(0, 0, 4)", x.row(0, 0, 4), -1);
        CHECK.due("row(0, 0, -1)", x.row(0, 0, -1), -1);
        CHECK.due("row(2, 0, 0)", x.row(2, 0, 0), -1);
        CHECK.due("row(-1, 0, 0)", x.row(-1, 0, 0), -1);
        CHECK.due("row(0, greatest, 0)", x.row(0, Integer.MAX_VALUE, 0), -1);
        CHECK.due("row(0, least, 0)", x.row(0, Integer.MIN_VALUE, 0), -1);
        CHECK.due("value(2, 0)", x.value(2, 0), 0);
        CHECK.due("value(-1, 0)", x.value(-1, 0), 0);
        CHECK.due("value(1, 2)", x.value(1, 2), 0);
        CHECK.due("value(1, -1)", x.value(1, -1), 0);
        CHECK.due("value(greatest, least)", x.value(Integer.MAX_VALUE, Integer.MIN_VALUE), 0);
    }
}
