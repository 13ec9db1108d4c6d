/** What the tests share: texts onto the tape, texts back, and a count of answers that are not as due. */
final class Check {
    private final String name;
    private String sentence = "";
    private int askedOfSentence = 1;
    private int asked = 0;
    private int wrong = 0;

    Check(String name) {
        this.name = name;
    }

    /** The document's sentence that the checks from here on hold the class to. */
    void sentence(String words) {
        endSentence();
        sentence = " [" + words + "]";
        askedOfSentence = 0;
    }

    private void endSentence() {
        if (askedOfSentence == 0) {
            wrong++;
            System.out.println(name + ": no check of" + sentence);
        }
    }

    void due(String call, long got, long want) {
        due(call, Long.toString(got), Long.toString(want));
    }

    void due(String call, boolean got, boolean want) {
        due(call, got ? 1 : 0, want ? 1 : 0);
    }

    void due(String call, String got, String want) {
        asked++;
        askedOfSentence++;
        if (!got.equals(want)) {
            wrong++;
            if (wrong <= 20) {
                System.out.println(name + ": " + call + " answered '" + got + "', due is '" + want + "'" + sentence);
            }
        }
    }

    /** The FAULT and its place, as they are due. */
    void dueFault(String call, TreeTables x, int kind, int place) {
        due(call + ", then fault(0)", x.fault(0), kind);
        due(call + ", then fault(1)", x.fault(1), place);
    }

    void dueLeaves(String text, int leaves) {
        TreeTables x = new TreeTables();
        load(x, text);
        due("shape() of '" + text + "'", x.shape(), leaves);
        dueFault("shape() of '" + text + "'", x, 0, -1);
    }

    /** The text is a PAPER: then it is the only one. */
    void duePaper(String shape, String text) {
        TreeTables x = with(shape);
        load(x, text);
        due("paper() of '" + text + "'", x.paper(), 1);
        dueFault("paper() of '" + text + "'", x, 0, -1);
    }

    void dueShapeFault(String text, int kind, int place) {
        TreeTables x = new TreeTables();
        load(x, text);
        due("shape() of '" + text + "'", x.shape(), -1);
        dueFault("shape() of '" + text + "'", x, kind, place);
    }

    void duePaperFault(String shape, String text, int kind, int place) {
        TreeTables x = with(shape);
        load(x, text);
        due("paper() of '" + text + "'", x.paper(), -1);
        dueFault("paper() of '" + text + "'", x, kind, place);
        due("leaf(0, 4) behind '" + text + "'", x.leaf(0, 4), 0);
    }

    void finish() {
        endSentence();
        System.out.println(name + ": " + asked + " answers, " + wrong + " of them not as due");
        if (wrong != 0 || asked == 0) {
            System.exit(1);
        }
    }

    static boolean isBlank(char b) {
        return b == 10 || b == 32;
    }

    static boolean isLetter(char b) {
        return b >= 'a' && b <= 'z';
    }

    static boolean isDigit(char b) {
        return b >= '0' && b <= '9';
    }

    /** Lays a text on an empty tape; its characters are bytes. */
    static void load(TreeTables x, String text) {
        for (int from = 0; from < text.length(); from += 20) {
            x.feed(number(text, from), number(text, from + 4), number(text, from + 8),
                number(text, from + 12), number(text, from + 16));
        }
        x.end(text.length());
    }

    private static int number(String text, int from) {
        int number = 0;
        for (int k = from; k < from + 4; k++) {
            number = number << 8 | (k < text.length() ? text.charAt(k) & 255 : ' ');
        }
        return number;
    }

    /** A new object with a SHAPE and PAPERS that have no FAULT. */
    static TreeTables with(String shape, String... papers) {
        TreeTables x = new TreeTables();
        load(x, shape);
        if (x.shape() < 1) {
            throw new IllegalStateException("no SHAPE: " + shape);
        }
        for (String paper : papers) {
            add(x, paper);
        }
        return x;
    }

    static int add(TreeTables x, String paper) {
        load(x, paper);
        int answer = x.paper();
        if (answer < 1) {
            throw new IllegalStateException("no PAPER: " + paper + ", FAULT " + x.fault(0) + " at " + x.fault(1));
        }
        return answer;
    }

    static String textOf(TreeTables x, int i, int bits) {
        int length = x.text(i, bits);
        return length < 0 ? "none" : latestText(x);
    }

    static String latestText(TreeTables x) {
        StringBuilder out = new StringBuilder();
        for (int k = 0; k < 1000 && x.at(k) != TreeTables.NONE; k++) {
            out.append((char) x.at(k));
        }
        return out.toString();
    }

    /** All that can be asked but for the tape and the FAULT, as a text; no call that it makes changes anything. */
    static String pictureOf(TreeTables x) {
        StringBuilder out = new StringBuilder(latestText(x));
        for (int c = 0; x.leaf(c, 0) != TreeTables.NONE; c++) {
            out.append('\n').append(c).append(':');
            for (int what = 0; what < 8; what++) {
                out.append(' ').append(x.leaf(c, what));
            }
            out.append(" | ").append(tableOf(x, c));
        }
        return out.toString();
    }

    /** A TABLE as a text: for each ROW PAPER/LEVEL/TOLD and =VALUE if it has one. */
    static String tableOf(TreeTables x, int c) {
        StringBuilder out = new StringBuilder();
        for (int k = 0; k < x.leaf(c, 4); k++) {
            out.append(k == 0 ? "" : " ").append(x.row(c, k, 3)).append('/').append(x.row(c, k, 0));
            out.append('/').append(x.row(c, k, 1));
            if (x.row(c, k, 2) == 1) {
                out.append('=').append(x.value(c, k));
            }
        }
        return out.toString();
    }
}
