/** Promises 5, 6 and 7: paper, its FAULTS, and drop. */
public final class PaperTest {
    private static final Check CHECK = new Check("PaperTest");
    private static final String SHAPE =
        "name word one; links [back num many; fwd num opt;] opt; tags [key word one; note [txt word opt; n num one;] many;] many;";

    public static void main(String[] args) {
        unfitBytes();
        unfitValues();
        names();
        lacking();
        otherKinds();
        wholePapers();
        counting();
        faultStays();
        dropping();
        dense();
        CHECK.finish();
    }

    private static void fault(String text, int kind, int place) {
        CHECK.duePaperFault(SHAPE, text, kind, place);
    }

    private static void unfitBytes() {
        fault("5", 1, 0);
        fault(":", 1, 0);
        fault("]", 1, 0);
        fault(";", 1, 0);
        fault("name", 1, 4);
        fault("name ", 1, 5);
        fault("name a", 1, 5);
        fault("name;", 1, 4);
        fault("name::", 1, 5);
        fault("name: a", 1, 7);
        fault("name: a ", 1, 8);
        fault("name: a b;", 1, 8);
        fault("name: a5;", 1, 7);
        fault("name: a;;", 1, 8);
        fault("name: a; ]", 1, 9);
        fault("name: a\t;", 1, 7);
        fault("name: a; links: [", 1, 17);
        fault("name: a; links: [] ", 1, 19);
        fault("name: a; links: []]", 1, 18);
        fault("name: a; links: [back: 1];", 1, 24);
        fault("name: a; links: [back: 1; ;", 1, 26);
        fault("name: a; tags: [key: b;", 1, 23);
        fault("tags: [key: b; note: [", 1, 22);
    }

    private static void unfitValues() {
        fault("name: ", 1, 6);
        fault("name: ;", 1, 6);
        fault("name: ];", 1, 6);
        fault("name: A;", 1, 6);
        fault("name: +;", 1, 6);
        fault("name: abcdefghi;", 1, 14);
        fault("name: abcdefghijklmnop", 1, 14);
        fault("links: [back: 1234567;", 1, 20);
        fault("links: [back: -1234567;", 1, 21);
        fault("links: [back: 0000000;", 1, 20);
        fault("links: [back: -;", 1, 15);
        fault("links: [back: -", 1, 15);
        fault("links: [back: - 5;", 1, 15);
        fault("links: [back: --5;", 1, 15);
        fault("links: [back: 5-;", 1, 15);
        fault("links: [back: 5a;", 1, 15);
        fault("links: [back: 5 6;", 1, 16);
        fault("links: [back: +5;", 1, 14);
    }

    private static void names() {
        fault("nam: a;", 2, 0);
        fault("names", 2, 0);
        fault(" abcdefghijk: 3;", 2, 1);
        fault("num: 3;", 2, 0);
        fault("back: 3;", 2, 0);
        fault("name: a; links: [name: b;];", 2, 17);
        fault("name: a; tags: [key: b; note: [key: b;];];", 2, 31);
        fault("name: a; name: b;", 3, 9);
        fault("name: a; name", 3, 9);
        fault("name: a; links: []; links: [];", 3, 20);
        fault("links: [fwd: 1; fwd: 2;];", 3, 16);
        fault("tags: [key: a; note: [n: 1; n: 2;];];", 3, 28);
        CHECK.duePaperFault("abcdefgh num one;", "abcdefghi: 1;", 2, 0);
    }

    private static void lacking() {
        fault("", 4, 0);
        fault(" \n", 4, 2);
        fault("links: [];", 4, 10);
        fault("links: []; \n ", 4, 13);
        fault("name: a; tags: [ ];", 4, 17);
        fault("name: a; tags: [key: b; note: [txt: c;];];", 4, 38);
        fault("tags: [key: b; note: [n: 1;];]; tags: [note: [n: 1;];];", 4, 53);
        CHECK.duePaperFault("a num opt; b [c num one;] one;", "a: 1;", 4, 5);
    }

    private static void otherKinds() {
        fault("name: 5;", 5, 6);
        fault("name: -;", 5, 6);
        fault("name:[];", 5, 5);
        fault("links: 3;", 5, 7);
        fault("links: a;", 5, 7);
        fault("links: [back: a;];", 5, 14);
        fault("links: [back: abcdefghijkl;];", 5, 14);
        fault("links: [back: [];];", 5, 14);
        fault("name: 1234567;", 5, 6);
        fault("tags: -5;", 5, 6);
    }

    private static void wholePapers() {
        TreeTables x = Check.with(SHAPE);
        CHECK.due("no blanks", Check.add(x, "name:a;"), 1);
        CHECK.due("blanks", Check.add(x, " name\n:\n a ; links : [ back : -5 ; ] ; \n"), 2);
        CHECK.due("any order", Check.add(x, "tags:[note:[n:1;];key:num;];links:[fwd:1;back:2;];name:abcdefgh;"), 3);
        CHECK.due("edges", Check.add(x, "name:zzzzzzzz;links:[back:999999;back:-999999;back:000000;back:-0;];"), 4);
        CHECK.dueFault("paper()", x, 0, -1);
        CHECK.due("a word VALUE may be a key word", x.value(3, 2), (14L * 27 + 21) * 27 + 13);
        CHECK.due("all opt and many", Check.add(Check.with("a num opt; b [c num one;] many;"), ""), 1);
    }

    private static void counting() {
        TreeTables x = Check.with("a num opt;");
        for (int n = 1; n <= 30; n++) {
            CHECK.due("paper() " + n, Check.add(x, "a: " + n + ";"), n);
        }
        Check.load(x, "b: 31;");
        CHECK.due("a 31st paper()", x.paper(), -2);
        CHECK.due("the tape is gone", x.end(1), false);
        CHECK.dueFault("a refused paper()", x, 0, -1);
        CHECK.due("ROWS", x.leaf(0, 4), 30);
        CHECK.due("drop(3)", x.drop(3), 29);
        CHECK.due("paper() again", Check.add(x, "a: 31;"), 30);
        CHECK.due("value(0, 29)", x.value(0, 29), 31);
        CHECK.due("value(0, 3)", x.value(0, 3), 5);
    }

    private static void faultStays() {
        TreeTables x = new TreeTables();
        Check.load(x, "a 5");
        x.shape();
        Check.load(x, "a");
        CHECK.due("paper() without a SHAPE", x.paper(), -2);
        CHECK.due("the tape is gone", x.end(1), false);
        CHECK.dueFault("shape(), paper() refused", x, 1, 2);
        Check.load(x, "a num one;");
        x.shape();
        CHECK.dueFault("shape()", x, 0, -1);
        Check.load(x, "a: b;");
        CHECK.due("paper()", x.paper(), -1);
        CHECK.due("the tape is gone", x.end(1), false);
        CHECK.dueFault("paper()", x, 5, 3);
        CHECK.dueFault("asked again", x, 5, 3);
        CHECK.due("fault(2)", x.fault(2), -1);
        CHECK.due("fault(-1)", x.fault(-1), -1);
        Check.add(x, "a: 1;");
        CHECK.dueFault("paper()", x, 0, -1);
    }

    private static void dropping() {
        TreeTables x = Check.with(SHAPE, "name: a;", "name: b; links: [back: 1; back: 2;];", "name: c; links: [];",
            "name: d; links: [back: 3;];");
        CHECK.due("drop(4)", x.drop(4), -1);
        CHECK.due("drop(-1)", x.drop(-1), -1);
        CHECK.due("drop(greatest)", x.drop(Integer.MAX_VALUE), -1);
        CHECK.due("TABLE", Check.tableOf(x, 1), "0/0/0 1/0/2=1 1/1/2=2 2/0/1 3/0/2=3");
        CHECK.due("drop(1)", x.drop(1), 3);
        CHECK.due("TABLE", Check.tableOf(x, 1), "0/0/0 1/0/1 2/0/2=3");
        CHECK.due("text(2)", Check.textOf(x, 2, -1), "name:d;links:[back:3;];");
        CHECK.due("drop(0)", x.drop(0), 2);
        CHECK.due("TABLE", Check.tableOf(x, 0), "0/0/0=3 1/0/0=4");
        CHECK.due("drop(1)", x.drop(1), 1);
        CHECK.due("drop(0)", x.drop(0), 0);
        CHECK.due("drop(0)", x.drop(0), -1);
        CHECK.due("TABLE", Check.tableOf(x, 0), "");
        CHECK.due("text(0)", x.text(0, -1), -1);
        CHECK.due("the latest text stays", Check.latestText(x), "name:d;links:[back:3;];");
        CHECK.due("paper()", Check.add(x, "name: e;"), 1);
    }

    /** The most ROWS that a PAPER can have: 100 of one LEAF, 80 of each of twelve. */
    private static void dense() {
        TreeTables x = Check.with("a num many;");
        TreeTables y = Check.with("g[a num opt;b num opt;c num opt;d num opt;e num opt;f num opt;g num opt;h num opt;"
            + "i num opt;j num opt;k num opt;l num opt;]many;");
        for (int n = 1; n <= 30; n++) {
            CHECK.due("100 VALUES", Check.add(x, "a:1;".repeat(100)), n);
            CHECK.due("80 GROUPS", Check.add(y, "g:[];".repeat(80)), n);
        }
        CHECK.due("ROWS", x.leaf(0, 4), 3000);
        CHECK.due("sum", x.sum(0, -1), 3000);
        CHECK.due("text", x.text(29, -1), 400);
        CHECK.due("SIZE", x.leaf(0, 7), 2 * 60 + 2 + 8);
        for (int c = 0; c < 12; c++) {
            CHECK.due("ROWS", y.leaf(c, 4), 2400);
            CHECK.due("SIZE", y.leaf(c, 7), 2 * 60 + 2);
        }
        CHECK.due("text", y.text(29, 1 << 11), 400);
        CHECK.due("drop", y.drop(29), 29);
        CHECK.due("ROWS", y.leaf(11, 4), 2320);
    }
}
