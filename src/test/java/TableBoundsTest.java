/** Terms III, sentence by sentence: ROWS with TOLD and LEVEL, VALUES, TEXT and SIZE at their bounds. */
public final class TableBoundsTest {
    private static final Check CHECK = new Check("TableBoundsTest");
    private static final String DEEPEST = "a[b[c[d[e num many;]many;]many;]many;]many;";

    public static void main(String[] args) {
        lackingHasOneRow();
        thereHasItsRows();
        tolds();
        firstRowOfAPaper();
        levels();
        mostRows();
        numbers();
        words();
        textOfNothing();
        textInTheShapesOrder();
        textOfGroups();
        longestText();
        sizeOfRuns();
        sizeOfValues();
        CHECK.finish();
    }

    private static void table(String shape, int c, String due, String... papers) {
        CHECK.due("TABLE " + c + " of '" + shape + "'", Check.tableOf(Check.with(shape, papers), c), due);
    }

    private static void lackingHasOneRow() {
        CHECK.sentence("III: if it lacks (opt, many without any) there is one ROW without a VALUE");
        table("a num opt;", 0, "0/0/0", "");
        table("a num many;", 0, "0/0/0", "");
        table("g[a num one;]opt;", 0, "0/0/0", "");
        table("g[a num many;]many;", 0, "0/0/0", "");
        table("g[a num opt;]one;", 0, "0/0/0", "g:[];");
        table("g[a num many;]many;", 0, "0/0/1 0/1/1 0/1/1", "g:[];g:[];g:[];");
        TreeTables x = Check.with("g[a num opt;b[c num many;d word one;]many;]opt;e num opt;", "e:5;");
        for (int c = 0; c < 3; c++) {
            CHECK.due("each LEAF of a GROUP that lacks: TABLE " + c, Check.tableOf(x, c), "0/0/0");
            CHECK.due("value(" + c + ", 0)", x.value(c, 0), 0);
            CHECK.due("row(" + c + ", 0, 2)", x.row(c, 0, 2), 0);
        }
    }

    private static void thereHasItsRows() {
        CHECK.sentence("III: if it is there, or for each of many, in order, its ROWS");
        table("a num one;", 0, "0/0/0=0", "a:0;");
        table("a num opt;", 0, "0/0/1=0 1/0/0 2/0/1=-5", "a:0;", "", "a:-5;");
        table("a num many;", 0, "0/0/1=3 0/1/1=1 0/1/1=2 1/0/0 2/0/1=1", "a:3;a:1;a:2;", "", "a:1;");
        table("g[a num one;]many;", 0, "0/0/1=3 0/1/1=1", "g:[a:3;];g:[a:1;];");
    }

    private static void tolds() {
        CHECK.sentence("III: TOLD: how many of the opt and many on the road are there (each of those up to where one lacks)");
        String shape = "a[b[c[d[e num opt;]one;]many;]one;]opt;";
        table(shape, 0, "0/0/0 1/0/1 2/0/2 3/0/3=7", "", "a:[b:[];];", "a:[b:[c:[d:[];];];];", "a:[b:[c:[d:[e:7;];];];];");
        table("a[b[c[d[e num one;]one;]one;]one;]one;", 0, "0/0/0=1", "a:[b:[c:[d:[e:1;];];];];");
        table(DEEPEST, 0, "0/0/0 1/0/1 2/0/2 3/0/3 4/0/4 5/0/5=1", "", "a:[];", "a:[b:[];];", "a:[b:[c:[];];];",
            "a:[b:[c:[d:[];];];];", "a:[b:[c:[d:[e:1;];];];];");
    }

    private static void firstRowOfAPaper() {
        CHECK.sentence("III: LEVEL: 0 in the first ROW of a PAPER");
        table("a num many;", 0, "0/0/1=1 1/0/1=1 2/0/0 3/0/0 4/0/1=1 4/1/1=1 5/0/1=1", "a:1;", "a:1;", "", "", "a:1;a:1;", "a:1;");
        TreeTables x = Check.with("a num many;", "a:1;a:2;", "a:3;a:4;");
        x.drop(0);
        CHECK.due("behind drop(0)", Check.tableOf(x, 0), "0/0/1=3 0/1/1=4");
    }

    private static void levels() {
        CHECK.sentence("III: On a road a b c, b and c being many: b's second one begins a ROW of LEVEL 1, a second c of one b one of LEVEL 2");
        for (String mark : new String[] {"one", "opt"}) {
            TreeTables x = Check.with("a[b[c num many;]many;]" + mark + ";", "a:[b:[c:1;c:2;];b:[c:3;];];");
            CHECK.due("LEVEL of the first", x.row(0, 0, 0), 0);
            CHECK.due("LEVEL of a second c", x.row(0, 1, 0), 2);
            CHECK.due("LEVEL of b's second one", x.row(0, 2, 0), 1);
        }
        CHECK.sentence("III: how many many there are on the road up to that, itself counted");
        table(DEEPEST, 0, "0/0/5=1 0/5/5=2 0/4/5=3 0/3/5=4 0/2/5=5 0/1/5=6",
            "a:[b:[c:[d:[e:1;e:2;];d:[e:3;];];c:[d:[e:4;];];];b:[c:[d:[e:5;];];];];a:[b:[c:[d:[e:6;];];];];");
        table(DEEPEST, 0, "0/0/1 0/1/2 0/1/3 0/1/4 0/4/4 0/3/3 0/2/2 0/1/1",
            "a:[];a:[b:[];];a:[b:[c:[];];];a:[b:[c:[d:[];d:[];];c:[];];b:[];];a:[];");
        table("a[b[c[d num many;]opt;]many;]opt;", 0, "0/0/3 0/1/2 0/1/4=1 0/2/4=2", "a:[b:[c:[];];b:[];b:[c:[d:1;d:2;];];];");
        CHECK.sentence("III: LEVEL (a many beside the road does not count)");
        TreeTables x = Check.with("g[a num many;b num one;]many;c num opt;", "g:[a:1;b:5;a:2;a:3;];g:[b:6;];c:1;");
        CHECK.due("TABLE 0", Check.tableOf(x, 0), "0/0/2=1 0/2/2=2 0/2/2=3 0/1/1");
        CHECK.due("TABLE 1", Check.tableOf(x, 1), "0/0/1=5 0/1/1=6");
        CHECK.due("TABLE 2", Check.tableOf(x, 2), "0/0/1=1");
    }

    private static void mostRows() {
        CHECK.sentence("III: A TABLE: the ROWS of all PAPERS, in order (as many as 30 full tapes tell)");
        TreeTables x = Check.with("a num many;");
        for (int n = 0; n < 30; n++) {
            Check.add(x, ("a:" + n % 10 + ";").repeat(100));
        }
        CHECK.due("ROWS", x.leaf(0, 4), 3000);
        CHECK.due("the last ROW's PAPER", x.row(0, 2999, 3), 29);
        CHECK.due("the last ROW's VALUE", x.value(0, 2999), 9);
        CHECK.due("the first ROW of the last PAPER", x.row(0, 2900, 0), 0);
        CHECK.due("behind the last ROW", x.row(0, 3000, 0), -1);
        Check.load(x, "a:1;".repeat(99) + "a:1:");
        CHECK.due("a 31st PAPER, refused", x.paper(), -2);
        x.drop(0);
        Check.load(x, "a:1;".repeat(99) + "a:1:");
        CHECK.due("a full tape with a FAULT at its last byte", x.paper(), -1);
        CHECK.due("fault(1)", x.fault(1), 399);
        CHECK.due("ROWS", x.leaf(0, 4), 2900);
        Check.add(x, "a:1;".repeat(100));
        CHECK.due("ROWS", x.leaf(0, 4), 3000);
    }

    private static void numbers() {
        CHECK.sentence("III: VALUES: a number itself");
        TreeTables x = Check.with("a num many;", "a:0;a:-0;a:000000;a:1;a:-1;a:999999;a:-999999;a:000010;a:-000010;");
        long[] due = {0, 0, 0, 1, -1, 999999, -999999, 10, -10};
        for (int k = 0; k < due.length; k++) {
            CHECK.due("value(0, " + k + ")", x.value(0, k), due[k]);
        }
        CHECK.due("unlike VALUES", x.leaf(0, 6), 7);
    }

    private static void words() {
        CHECK.sentence("III: VALUES: a word as a number: a 1, .. z 26, by 27 (the first letter highest)");
        String letters = "abcdefghijklmnopqrstuvwxyz";
        for (int k = 0; k < 26; k++) {
            String letter = letters.substring(k, k + 1);
            TreeTables x = Check.with("w word many;", "w:" + letter + ";w:" + letter + "a;w:a" + letter + ";w:" + letter.repeat(8) + ";");
            CHECK.due(letter, x.value(0, 0), k + 1);
            CHECK.due(letter + "a", x.value(0, 1), (k + 1) * 27 + 1);
            CHECK.due("a" + letter, x.value(0, 2), 27 + k + 1);
            CHECK.due(letter.repeat(8), x.value(0, 3), (k + 1) * 10862674480L);
            CHECK.due("TEXT", Check.textOf(x, 0, 1), "w:" + letter + ";w:" + letter + "a;w:a" + letter + ";w:" + letter.repeat(8) + ";");
        }
    }

    private static void textOfNothing() {
        CHECK.sentence("III: TEXT: and is there (nothing is there)");
        TreeTables x = Check.with("a num opt;b word many;g[c num one;]opt;h[d num one;]many;", "", "h:[d:1;];");
        CHECK.due("TEXT", Check.textOf(x, 0, -1), "");
        for (int c = 0; c < 3; c++) {
            CHECK.due("TEXT for LEAF " + c, Check.textOf(x, 1, 1 << c), "");
        }
        CHECK.due("TEXT for LEAF 3", Check.textOf(x, 1, 8), "h:[d:1;];");
    }

    private static void textInTheShapesOrder() {
        CHECK.sentence("III: TEXT: for each FIELD in THE SHAPE's order (each of many, in order), without blanks");
        TreeTables x = Check.with("z num one;y[x word one;w num many;]many;a num opt;",
            "a : 3 ; y : [ w : 2 ; x : b ; w : 1 ; ] ; z : 9 ; y : [ x : a ; ] ;");
        CHECK.due("TEXT", Check.textOf(x, 0, -1), "z:9;y:[x:b;w:2;w:1;];y:[x:a;];a:3;");
        CHECK.sentence("III: TEXT: NAME : VALUE ; (a number as it is told least)");
        TreeTables y = Check.with("a num many;", "a:-0;a:00;a:007;a:-00100;a:100000;a:-999999;a:10;");
        CHECK.due("TEXT", Check.textOf(y, 0, -1), "a:0;a:0;a:7;a:-100;a:100000;a:-999999;a:10;");
        TreeTables z = Check.with("a num one;", "a:-0;");
        CHECK.due("TEXT of -0", z.text(0, 1), 4);
    }

    private static void textOfGroups() {
        CHECK.sentence("III: TEXT: or a GROUP on the road to one of these, and is there: GROUPS in [ ]");
        TreeTables x = Check.with("g[a num opt;h[b num many;c word opt;]many;]opt;k[d num opt;]many;", "g:[h:[b:1;b:2;];h:[];];k:[];k:[d:5;];");
        CHECK.due("a, which lacks in a GROUP that is there", Check.textOf(x, 0, 1), "g:[];");
        CHECK.due("b", Check.textOf(x, 0, 2), "g:[h:[b:1;b:2;];h:[];];");
        CHECK.due("c", Check.textOf(x, 0, 4), "g:[h:[];h:[];];");
        CHECK.due("d", Check.textOf(x, 0, 8), "k:[];k:[d:5;];");
        CHECK.due("a and d", Check.textOf(x, 0, 9), "g:[];k:[];k:[d:5;];");
        CHECK.due("all", Check.textOf(x, 0, 15), "g:[h:[b:1;b:2;];h:[];];k:[];k:[d:5;];");
        String deepest = "a:[b:[c:[d:[e:1;e:2;];d:[];];c:[];];b:[];];a:[];a:[b:[c:[d:[e:3;];];];];";
        CHECK.due("five many deep", Check.textOf(Check.with(DEEPEST, deepest), 0, 1), deepest);
    }

    private static void longestText() {
        CHECK.sentence("III: TEXT (as long as the tape may be)");
        String text = "abcdefgh:999999;".repeat(25);
        TreeTables x = Check.with("abcdefgh num many;", text);
        CHECK.due("text(0, 1)", x.text(0, 1), 400);
        CHECK.due("its bytes", Check.latestText(x), text);
        CHECK.due("at(399)", x.at(399), ';');
        CHECK.due("at(400)", x.at(400), -1);
        String values = "a:1;".repeat(100);
        CHECK.due("100 of a many LEAF", Check.textOf(Check.with("a num many;", values), 0, 1), values);
        String groups = "g:[];".repeat(80);
        CHECK.due("80 of a many GROUP", Check.textOf(Check.with("g[a num opt;]many;", groups), 0, 1), groups);
    }

    private static void size(String shape, int due, String... papers) {
        CHECK.due("SIZE of '" + shape + "' with " + String.join("|", papers), Check.with(shape, papers).leaf(0, 7), due);
    }

    private static void sizeOfRuns() {
        CHECK.sentence("III: SIZE: 2 for each run of like LEVELS (if AGAIN is not 0)");
        size("a num many;", 0);
        size("a num many;", 2 + 2 + 8, "a:1;");
        size("a num many;", 4 + 2 + 8, "a:1;a:1;");
        size("a num many;", 4 + 2 + 8, "a:1;a:1;a:1;");
        size("a num many;", 8 + 2 + 8, "a:1;a:1;", "a:1;a:1;");
        size("a num many;", 6 + 2 + 8, "a:1;a:1;", "a:1;");
        size("a num opt;", 2 + 8, "a:1;", "a:1;");
        CHECK.sentence("III: SIZE: 2 for each run of like TOLDS (if DEEP is not 0)");
        size("a num opt;", 0);
        size("a num opt;", 2, "");
        size("a num opt;", 2, "", "");
        size("a num opt;", 4 + 8, "", "a:1;");
        size("a num opt;", 6 + 8, "", "a:1;", "");
        size("a num opt;", 6 + 8, "", "", "a:1;", "a:1;", "", "");
        size("g[a num one;]opt;", 4 + 8, "", "g:[a:1;];");
        size("a num many;", 2 + 2, "", "");
        CHECK.sentence("III: SIZE: (DEEP and AGAIN 0)");
        size("a num one;", 0);
        size("a num one;", 8, "a:1;");
        size("g[a num one;]one;b num many;", 8, "g:[a:1;];", "g:[a:1;];b:1;b:2;");
    }

    /** Unlike VALUES that fill b bits and one more, and VALUES that fill whole bytes and one more. */
    private static void sizeOfValues() {
        CHECK.sentence("III: SIZE: 8 for each unlike VALUE, and b bits for each VALUE, rounded up to whole bytes");
        int[][] bitsOf = {{1, 0}, {2, 1}, {3, 2}, {4, 2}, {5, 3}, {8, 3}, {9, 4}, {16, 4}, {17, 5}, {32, 5}, {33, 6}, {64, 6}, {65, 7}};
        for (int[] due : bitsOf) {
            TreeTables x = Check.with("a num one;g[b num many;]one;");
            StringBuilder text = new StringBuilder("a:1;g:[");
            for (int n = 0; n < due[0]; n++) {
                text.append("b:").append(n).append(';');
            }
            Check.add(x, text.append("];").toString());
            int values = due[0];
            int runs = due[0] == 1 ? 4 : 6;
            CHECK.due(due[0] + " unlike", x.leaf(1, 7), runs + 8 * due[0] + (due[1] * values + 7) / 8);
            Check.add(x, "a:1;g:[" + "b:0;".repeat(9) + "];");
            values += 9;
            CHECK.due(due[0] + " unlike and 9 more", x.leaf(1, 7), 2 + (due[0] == 1 ? 4 : 8) + 8 * due[0] + (due[1] * values + 7) / 8);
        }
        CHECK.sentence("III: SIZE: as many whole bytes as b bits for each VALUE take, rounded up");
        TreeTables x = Check.with("a num one;");
        int[] due = {8, 17, 17, 17, 17, 17, 17, 17, 18, 18, 18, 18, 18, 18, 18, 18, 19};
        for (int n = 0; n < due.length; n++) {
            Check.add(x, "a:" + n % 2 + ";");
            CHECK.due(n + 1 + " VALUES of two unlike ones", x.leaf(0, 7), due[n]);
        }
        CHECK.sentence("III: SIZE: each VALUE (a ROW without one takes no bits, a 0 does)");
        size("a num opt;", 4 + 16 + 1, "a:0;", "a:1;", "", "", "", "", "", "", "");
        size("a num opt;", 2 + 16 + 2, "a:0;", "a:1;", "a:0;", "a:0;", "a:0;", "a:0;", "a:0;", "a:0;", "a:0;");
    }
}
