/** Terms II, sentence by sentence: the bounds of a PAPER's TEXT, and each FAULT at the place that is named for it. */
public final class PaperBoundsTest {
    private static final Check CHECK = new Check("PaperBoundsTest");
    private static final String SHAPE = "n num many;w word many;g[o num one;p word opt;q[r num many;]many;]opt;";

    public static void main(String[] args) {
        blanks();
        anyByteInAnyPlace();
        numberLengths();
        minusAlone();
        wordLengths();
        emptyGroups();
        anyOrder();
        thirtyPapers();
        unknownNames();
        namesAgain();
        lackingParts();
        otherKinds();
        endsTooSoon();
        firstAlongTheText();
        CHECK.finish();
    }

    private static void whole(String text) {
        CHECK.duePaper(SHAPE, text);
    }

    private static void fault(String text, int kind, int place) {
        CHECK.duePaperFault(SHAPE, text, kind, place);
    }

    private static void blanks() {
        CHECK.sentence("II: A PAPER's TEXT, likewise: blanks (10, 32) between where one likes");
        whole("n:1;w:a;g:[o:2;q:[r:3;];];");
        whole(" \n n \n : \n -1 \n ; \n g \n : \n [ \n o \n : \n 2 \n ; \n q : [ \n ] \n ; \n ] \n ; \n ");
        whole(" ".repeat(400));
        whole("\n".repeat(396) + "n:1;");
        fault("n:1 2;", 1, 4);
        fault("n:- 1;", 1, 3);
        fault("w:a b;", 1, 4);
    }

    /** Each of the 256 bytes in the places of an ENTRY: which of them it may be, and the FAULT if not. */
    private static void anyByteInAnyPlace() {
        CHECK.sentence("II: FAULT 1 as above: the first byte with which no PAPER goes on");
        for (char b = 0; b < 256; b++) {
            boolean blank = Check.isBlank(b);
            boolean letter = Check.isLetter(b);
            boolean number = Check.isDigit(b) || b == '-';
            dueByte(b + "w:a;", blank ? 0 : letter ? 2 : 1, 0);
            dueByte("w" + b + ":a;", blank ? 0 : letter ? 2 : 1, letter ? 0 : b == ':' ? 2 : 1);
            dueByte("w:" + b + "a;", blank || letter ? 0 : number || b == '[' ? 5 : 1, 2);
            dueByte("w:a" + b + ";", blank || letter ? 0 : 1, b == ';' ? 4 : 3);
            dueByte("n:" + b + "5;", blank || number ? 0 : letter || b == '[' ? 5 : 1, 2);
            dueByte("n:5" + b + ";", blank || Check.isDigit(b) ? 0 : 1, b == ';' ? 4 : 3);
            dueByte("n:-" + b + "5;", Check.isDigit(b) ? 0 : 1, 3);
            dueByte("g:" + b + "o:1;];", b == '[' ? 0 : blank || letter || number ? 5 : 1, blank ? 3 : 2);
            dueByte("g:[o:1;" + b + "];", blank ? 0 : isNameIn(b, "pq") ? 1 : b == 'o' ? 3 : letter ? 2 : 1,
                b == ']' || isNameIn(b, "pq") ? 8 : 7);
            dueByte("g:[o:1;]" + b + ";", blank ? 0 : 1, b == ';' ? 9 : 8);
            dueByte("w:a;" + b, blank ? 0 : isNameIn(b, "nwg") ? 1 : letter ? 2 : 1, isNameIn(b, "nwg") ? 5 : 4);
        }
    }

    private static boolean isNameIn(char b, String names) {
        return names.indexOf(b) >= 0;
    }

    private static void dueByte(String text, int kind, int place) {
        if (kind == 0) {
            whole(text);
        } else {
            fault(text, kind, place);
        }
    }

    private static void numberLengths() {
        CHECK.sentence("II: a number: - or not, and at once 1 to 6 digits; FAULT 1: a 7th digit at itself");
        String digits = "9876543210";
        for (int length = 1; length <= 10; length++) {
            String number = digits.substring(0, length);
            if (length <= 6) {
                TreeTables x = Check.with(SHAPE, "n:" + number + ";n:-" + number + ";n:" + "0".repeat(length) + ";");
                CHECK.due("the VALUE of " + number, x.value(0, 0), Long.parseLong(number));
                CHECK.due("the VALUE of -" + number, x.value(0, 1), -Long.parseLong(number));
                CHECK.due("the VALUE of zeros", x.value(0, 2), 0);
            } else {
                fault("n:" + number + ";", 1, 8);
                fault("n: -" + number + ";", 1, 10);
                fault("n:" + "0".repeat(length) + ";", 1, 8);
                fault("g:[q:[r:" + number, 1, 14);
            }
        }
        fault("n:" + "1".repeat(398), 1, 8);
    }

    private static void minusAlone() {
        CHECK.sentence("II: a number: and at once 1 (digit at least)");
        for (String behind : new String[] {";", " ", "\n", "-", "a", "[", "]", ":", ""}) {
            fault("n:-" + behind, 1, 3);
        }
        fault("n:- 5;", 1, 3);
        fault("n:--5;", 1, 3);
        fault("n:+5;", 1, 2);
        fault("n:5-;", 1, 3);
    }

    private static void wordLengths() {
        CHECK.sentence("II: a word (1 to 8 letters); FAULT 1: a 9th letter of a word VALUE at itself");
        String letters = "zaybxcwdve";
        for (int length = 1; length <= 10; length++) {
            String word = letters.substring(0, length);
            if (length <= 8) {
                TreeTables x = Check.with(SHAPE, "w:" + word + ";");
                CHECK.due("the TEXT of " + word, Check.textOf(x, 0, 2), "w:" + word + ";");
            } else {
                fault("w:" + word + ";", 1, 10);
                fault("w: \n" + word, 1, 12);
                fault("g:[o:1;p:" + word + ";];", 1, 17);
            }
        }
        fault("w:;", 1, 2);
        fault("w:" + "x".repeat(398), 1, 10);
        CHECK.sentence("II: a word (any letters: no word is kept back)");
        whole("w:num;w:word;w:one;w:opt;w:many;w:n;w:w;");
    }

    private static void emptyGroups() {
        CHECK.sentence("II: { ENTRY ; } and [ { ENTRY ; } ] (none of them is enough, where none is due)");
        whole("");
        whole("g:[o:1;q:[];q:[ \n ];];");
        CHECK.duePaper("a[b[c num opt;]one;]one;", "a:[b:[];];");
    }

    private static void anyOrder() {
        CHECK.sentence("II: ENTRIES of one group may come in any order; those of one many FIELD in the order in which they come");
        String[] orders = {"n:1;w:a;n:2;g:[o:1;p:b;q:[r:4;];q:[r:5;];];", "g:[q:[r:4;];p:b;q:[r:5;];o:1;];n:1;n:2;w:a;",
            "w:a;n:1;g:[p:b;o:1;q:[r:4;];q:[r:5;];];n:2;"};
        String due = null;
        for (String text : orders) {
            TreeTables x = Check.with(SHAPE, text);
            due = due == null ? Check.pictureOf(x) : due;
            CHECK.due("the TABLES of '" + text + "'", Check.pictureOf(x), due);
            CHECK.due("the VALUES of n", Check.tableOf(x, 0), "0/0/1=1 0/1/1=2");
            CHECK.due("the VALUES of r", Check.tableOf(x, 4), "0/0/3=4 0/1/3=5");
        }
        CHECK.due("the other way round", Check.tableOf(Check.with(SHAPE, "n:2;w:a;n:1;"), 0), "0/0/1=2 0/1/1=1");
    }

    private static void thirtyPapers() {
        CHECK.sentence("II: At most 30 PAPERS");
        TreeTables x = Check.with(SHAPE);
        for (int n = 1; n <= 30; n++) {
            CHECK.due("paper() " + n, x.paper(), n);
        }
        CHECK.due("a 31st paper()", x.paper(), -2);
        CHECK.due("ROWS", x.leaf(0, 4), 30);
        CHECK.due("text(29, -1)", x.text(29, -1), 0);
        CHECK.due("text(30, -1)", x.text(30, -1), -1);
    }

    private static void unknownNames() {
        CHECK.sentence("II: FAULT 2 a NAME (also of more than 8 letters) that is no FIELD there, at its first byte");
        fault("x:1;", 2, 0);
        fault(" \n x", 2, 3);
        fault("nn:1;", 2, 0);
        fault("o:1;", 2, 0);
        fault("r:1;", 2, 0);
        fault("n:1;x", 2, 4);
        fault("g:[n:1;];", 2, 3);
        fault("g:[g:[];];", 2, 3);
        fault("g:[o:1;q:[o:1;];];", 2, 10);
        fault("g:[o:1;q:[];];q:[];", 2, 14);
        for (int length = 2; length <= 12; length++) {
            fault("n".repeat(length) + ":1;", 2, 0);
        }
        fault("n".repeat(400), 2, 0);
        CHECK.duePaperFault("abcdefgh num opt;", "abcdefghi:1;", 2, 0);
        CHECK.duePaperFault("abcdefgh num opt;", "abcdefg:1;", 2, 0);
        CHECK.duePaper("abcdefgh num opt;", "abcdefgh:1;");
        for (String word : new String[] {"num", "word", "one", "opt", "many"}) {
            fault(word + ":1;", 2, 0);
        }
    }

    private static void namesAgain() {
        CHECK.sentence("II: FAULT 3 a NAME of a one or opt FIELD that is there already, at its first byte");
        fault("g:[o:1;o:2;];", 3, 7);
        fault("g:[o:1; \n o", 3, 10);
        fault("g:[p:a;p:a;];", 3, 7);
        fault("g:[p:a;o:1;p:5", 3, 11);
        fault("g:[o:1;];g:[o:1;];", 3, 9);
        fault("g:[o:1;];n:1;g", 3, 13);
        CHECK.duePaperFault("a[b num one;]one;c num opt;", "a:[b:1;];a:[b:1;];", 3, 9);
        CHECK.sentence("II: FAULT 3 (of no many FIELD, and of none that is there in another GROUP)");
        whole("n:1;n:1;w:a;w:a;g:[o:1;q:[];q:[];];");
        CHECK.duePaper("a[b num one;c num opt;]many;b num one;", "b:1;a:[b:1;c:1;];a:[b:1;c:1;];");
        CHECK.duePaper("a[b[c num one;]one;]many;", "a:[b:[c:1;];];a:[b:[c:1;];];");
    }

    private static void lackingParts() {
        CHECK.sentence("II: FAULT 4 a one FIELD that lacks, at the ] of its group");
        fault("g:[];", 4, 3);
        fault("g:[ \n ]", 4, 6);
        fault("g:[p:a;q:[];];", 4, 12);
        CHECK.duePaperFault("a[b[c num one;]opt;d num one;]many;", "a:[d:1;b:[];];", 4, 10);
        CHECK.duePaperFault("a[b[c num one;]opt;d num one;]many;", "a:[b:[c:1;];];", 4, 12);
        CHECK.duePaperFault("a[b num one;]many;", "a:[b:1;];a:[];", 4, 12);
        CHECK.duePaperFault("a[b[c num one;]one;]many;", "a:[b:[c:1;];];a:[b:[];];", 4, 20);
        CHECK.duePaperFault("a[b[c num opt;]one;]opt;", "a:[];", 4, 3);
        CHECK.sentence("II: FAULT 4 a one FIELD that lacks, at the text's length");
        CHECK.duePaperFault("a num one;", "", 4, 0);
        CHECK.duePaperFault("a num one;", " \n ", 4, 3);
        CHECK.duePaperFault("a num one;", " ".repeat(400), 4, 400);
        CHECK.duePaperFault("a num one;b num one;", "b:1; ", 4, 5);
        CHECK.duePaperFault("a num one;b num one;", "a:1;", 4, 4);
        CHECK.duePaperFault("a[b num opt;]one;c num many;", "c:1;", 4, 4);
        CHECK.sentence("II: FAULT 4 (of no opt or many FIELD)");
        CHECK.duePaper("a num opt;b word many;c[d num one;]opt;e[f word one;]many;", "");
        CHECK.duePaper("z[a num opt;b word many;c[d num one;]opt;e[f word one;]many;]one;", "z:[];");
    }

    private static void otherKinds() {
        CHECK.sentence("II: FAULT 5 a VALUE of another KIND, at its first byte");
        for (String word : new String[] {"a", "z", "num", "abcdefghi"}) {
            fault("n: " + word + ";", 5, 3);
            fault("g: " + word + ";", 5, 3);
        }
        for (String number : new String[] {"0", "9", "1234567", "-", "-5", "--"}) {
            fault("w: " + number + ";", 5, 3);
            fault("g:\n" + number + ";", 5, 3);
        }
        fault("n:[];", 5, 2);
        fault("w:[o:1;];", 5, 2);
        fault("g:[o:a;];", 5, 5);
        fault("g:[p:5;];", 5, 5);
        fault("g:[o:1;q:5;];", 5, 9);
        CHECK.sentence("II: FAULT 5: what can begin none of these is 1");
        for (String name : new String[] {"n", "w", "g"}) {
            for (String other : new String[] {";", ":", "]", "A", "+", "{", "\t", "\u00e9", "\0"}) {
                fault(name + ": " + other, 1, 3);
            }
            fault(name + ":", 1, 2);
            fault(name + ": ", 1, 3);
        }
    }

    /** Each beginning of a PAPER: whole where an ENTRY of the outermost group has just ended. */
    private static void endsTooSoon() {
        CHECK.sentence("II: FAULT 1: at the text's length, if it ends too soon");
        String text = "n : -12 ; w : ab ; g : [ o : 1 ; q : [ r : 3 ; ] ; ] ; ";
        for (int n = 0; n <= text.length(); n++) {
            String part = text.substring(0, n);
            boolean isWhole = n == 0 || n == 9 || n == 10 || n == 18 || n == 19 || n >= 54;
            if (isWhole) {
                whole(part);
            } else {
                fault(part, 1, n);
            }
        }
        CHECK.duePaperFault("a num one;g[b num one;]opt;", "g:[", 1, 3);
        CHECK.duePaperFault("a num one;g[b num one;]opt;", "g:[b:1;]", 1, 8);
        fault("n" + " ".repeat(399), 1, 400);
    }

    private static void firstAlongTheText() {
        CHECK.sentence("II: FAULTS, the first along the text");
        fault("n:1;;x:1;g:5;", 1, 4);
        fault("x:1;;g:5;", 2, 0);
        fault("x", 2, 0);
        fault("g:[o:1;o;x", 3, 7);
        fault("g:[]]x", 4, 3);
        fault("g:[];g:[];", 4, 3);
        fault("g:5;;x", 5, 2);
        fault("w:1234567", 5, 2);
        CHECK.duePaperFault("a num one;b num opt;", "b:1;b:1;", 3, 4);
        CHECK.duePaperFault("a num one;b num opt;", "b:1", 1, 3);
    }
}
