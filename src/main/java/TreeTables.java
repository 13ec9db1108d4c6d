import java.util.Arrays;

/**
 * A mapper of nested papers: a SHAPE tells which parts a PAPER has, PAPERS are read by it and laid
 * into one TABLE a LEAF; the TABLES answer asks and give the PAPERS back.
 */
public final class TreeTables {
    public static final int NONE = -1;

    private static final int FAULTY = -1;
    private static final int REFUSED = -2;

    private static final int TAPE_MOST = 400;
    private static final int FEED_BYTES = 20;
    private static final int PAPERS_MOST = 30;
    private static final int LEAVES_MOST = 12;
    private static final int DEEPEST_GROUP = 4;
    private static final int LETTERS_MOST = 8;
    private static final int DIGITS_MOST = 6;

    // 12 LEAVES with 4 GROUPS each, 4 GROUPS open behind them and a NAME without its KIND: 65.
    private static final int FIELDS_MOST = 66;
    // An ENTRY takes 4 bytes at least, and no two ROWS of one TABLE end in the same ENTRY.
    private static final int ROWS_MOST = PAPERS_MOST * (TAPE_MOST / 4);
    private static final int ROWS_AT_FIRST = 16;

    private static final int END = -1;
    private static final int LINE_FEED = 10;
    private static final int SPACE = 32;

    private static final int UNFIT = 1;
    private static final int SHAPE_NAME_AGAIN = 2;
    private static final int SHAPE_LIMIT = 3;
    private static final int PAPER_NAME_UNKNOWN = 2;
    private static final int PAPER_NAME_AGAIN = 3;
    private static final int PAPER_PART_LACKS = 4;
    private static final int PAPER_OTHER_KIND = 5;

    private static final int NUM = 1;
    private static final int WORD = 2;
    private static final int GROUP = 3;

    private static final int ONE = 1;
    private static final int OPT = 2;
    private static final int MANY = 3;

    // Words stand as numbers everywhere, as their VALUES do: a is 1, z is 26, by 27.
    private static final long LETTERS = 27;
    private static final long HIGHEST_LETTER = LETTERS * LETTERS * LETTERS * LETTERS * LETTERS * LETTERS * LETTERS;
    private static final long HIGHEST_DIGIT = 100000;
    private static final long NO_WORD = 0;
    private static final long NUM_WORD = (14 * LETTERS + 21) * LETTERS + 13;
    private static final long WORD_WORD = ((23 * LETTERS + 15) * LETTERS + 18) * LETTERS + 4;
    private static final long ONE_WORD = (15 * LETTERS + 14) * LETTERS + 5;
    private static final long OPT_WORD = (15 * LETTERS + 16) * LETTERS + 20;
    private static final long MANY_WORD = ((13 * LETTERS + 1) * LETTERS + 14) * LETTERS + 25;

    private final Tape tape;
    private final Table[] tables;
    private final Text latestText;
    private Shape current;
    private Shape spare;
    private int paperCount;

    public TreeTables() {
        tape = new Tape();
        tables = new Table[LEAVES_MOST];
        for (int c = 0; c < LEAVES_MOST; c++) {
            tables[c] = new Table();
        }
        latestText = new Text();
        current = new Shape();
        spare = new Shape();
        paperCount = 0;
    }

    public int feed(int a, int b, int c, int d, int e) {
        if (tape.length > TAPE_MOST - FEED_BYTES) {
            return NONE;
        }
        tape.put(a);
        tape.put(b);
        tape.put(c);
        tape.put(d);
        tape.put(e);
        return tape.length;
    }

    public boolean end(int n) {
        if (n < 0 || n > tape.length) {
            return false;
        }
        tape.length = n;
        return true;
    }

    public int shape() {
        boolean whole = new ShapeReader(tape, spare).readAll();
        tape.length = 0;
        if (!whole) {
            return FAULTY;
        }
        Shape old = current;
        current = spare;
        spare = old;
        paperCount = 0;
        for (int c = 0; c < current.leaves; c++) {
            beginTable(c);
        }
        return current.leaves;
    }

    public int paper() {
        if (current.leaves == 0 || paperCount >= PAPERS_MOST) {
            tape.length = 0;
            return REFUSED;
        }
        boolean whole = new PaperReader(tape, current, tables, paperCount).readAll();
        tape.length = 0;
        if (!whole) {
            forgetRows(paperCount);
            return FAULTY;
        }
        paperCount++;
        return paperCount;
    }

    public int fault(int what) {
        if (what == 0) {
            return tape.flaw;
        }
        return what == 1 ? tape.flawPlace : NONE;
    }

    public int drop(int i) {
        if (!isPaper(i)) {
            return NONE;
        }
        forgetRows(i);
        paperCount--;
        return paperCount;
    }

    public int leaf(int c, int what) {
        Table table = tableOf(c);
        if (table == null) {
            return NONE;
        }
        switch (what) {
            case 0:
                return table.deep;
            case 1:
                return table.again;
            case 2:
                return table.isNum ? 1 : 0;
            case 3:
                return table.groups;
            case 4:
                return table.count;
            case 5:
                return table.countValues();
            case 6:
                return table.countUnlike();
            case 7:
                return table.measureSize();
            default:
                return NONE;
        }
    }

    public int row(int c, int k, int what) {
        Table table = tableOf(c);
        if (table == null || !table.isRow(k)) {
            return NONE;
        }
        switch (what) {
            case 0:
                return table.levels[k];
            case 1:
                return table.tolds[k];
            case 2:
                return table.hasValue(k) ? 1 : 0;
            case 3:
                return table.paperOf[k];
            default:
                return NONE;
        }
    }

    public long value(int c, int k) {
        Table table = tableOf(c);
        if (table == null || !table.hasValue(k)) {
            return 0;
        }
        return table.values[k];
    }

    public int text(int i, int bits) {
        if (!isPaper(i)) {
            return NONE;
        }
        new TextWriter(current, tables, bits, latestText).writeAll(i);
        return latestText.length;
    }

    public int at(int k) {
        return latestText.byteAt(k);
    }

    // ---- asks

    public int among(int c, long least, long greatest) {
        Table table = tableOf(c);
        if (table == null) {
            return NONE;
        }
        int found = 0;
        for (int k = 0; k < table.count; k++) {
            if (table.hasValueWithin(k, least, greatest)) {
                found++;
            }
        }
        return found;
    }

    public int papers(int c, long least, long greatest) {
        Table table = tableOf(c);
        if (table == null) {
            return NONE;
        }
        int found = 0;
        int latest = NONE;
        for (int k = 0; k < table.count; k++) {
            if (table.paperOf[k] != latest && table.hasValueWithin(k, least, greatest)) {
                found++;
                latest = table.paperOf[k];
            }
        }
        return found;
    }

    public long sum(int c, int i) {
        Table table = tableOf(c);
        if (table == null || !table.isNum) {
            return 0;
        }
        long total = 0;
        for (int k = 0; k < table.count; k++) {
            if (table.hasValue(k) && (i == NONE || table.paperOf[k] == i)) {
                total += table.values[k];
            }
        }
        return total;
    }

    public int both(int a, long v, int b, long w) {
        Table first = tableOf(a);
        Table second = tableOf(b);
        if (first == null || second == null) {
            return NONE;
        }
        // The two TABLES have equally many stretches, one each time the shared many comes or lacks.
        int level = current.sharedMany(a, b);
        int found = 0;
        int other = 0;
        for (int k = 0; k < first.count; k++) {
            if (first.levels[k] <= level) {
                if (first.holdsInStretch(k, level, v) && second.holdsInStretch(other, level, w)) {
                    found++;
                }
                other = second.stretchEnd(other, level);
            }
        }
        return found;
    }

    public int rows(int c, int level, int told) {
        Table table = tableOf(c);
        if (table == null) {
            return NONE;
        }
        int found = 0;
        for (int k = 0; k < table.count; k++) {
            boolean levelFits = level == NONE || table.levels[k] == level;
            boolean toldFits = told == NONE || table.tolds[k] == told;
            if (levelFits && toldFits) {
                found++;
            }
        }
        return found;
    }

    private boolean isPaper(int i) {
        return i >= 0 && i < paperCount;
    }

    /** The TABLE of LEAF c, or null when there is no such LEAF. */
    private Table tableOf(int c) {
        return c >= 0 && c < current.leaves && c < LEAVES_MOST ? tables[c] : null;
    }

    private void beginTable(int c) {
        Table table = tableOf(c);
        int field = current.fieldOfLeaf(c);
        if (table != null && current.isField(field)) {
            table.begin(current.deep[field], current.again[field], current.kinds[field] == NUM, current.groupsOn[field]);
        }
    }

    private void forgetRows(int paper) {
        for (int c = 0; c < current.leaves; c++) {
            Table table = tableOf(c);
            if (table != null) {
                table.forget(paper);
            }
        }
    }

    private static boolean isLetter(int b) {
        return b >= 'a' && b <= 'z';
    }

    private static boolean isDigit(int b) {
        return b >= '0' && b <= '9';
    }

    /** The bytes on the tape, how far they are read, and the FAULT of the latest reading. */
    private static final class Tape {
        final byte[] bytes = new byte[TAPE_MOST];
        int length = 0;
        int place = 0;
        int flaw = 0;
        int flawPlace = NONE;
        int wordStart = 0;
        int wordLength = 0;
        long wordCode = NO_WORD;

        void put(int number) {
            for (int shift = 24; shift >= 0 && length < TAPE_MOST; shift -= 8) {
                bytes[length] = (byte) (number >>> shift);
                length++;
            }
        }

        void begin() {
            place = 0;
            flaw = 0;
            flawPlace = NONE;
        }

        /** Keeps the FAULT; answers false so that a reader can answer with it. */
        boolean fail(int kind, int where) {
            flaw = kind;
            flawPlace = where;
            return false;
        }

        boolean failHere(int kind) {
            return fail(kind, place);
        }

        /** The byte at the place, blanks not passed over. */
        int here() {
            return place >= 0 && place < length && place < TAPE_MOST ? bytes[place] & 255 : END;
        }

        /** Passes over blanks: the byte behind them. */
        int next() {
            while (place < length && (here() == LINE_FEED || here() == SPACE)) {
                place++;
            }
            return here();
        }

        boolean pass(int wanted) {
            if (next() != wanted) {
                return failHere(UNFIT);
            }
            place++;
            return true;
        }

        /** Reads the word that comes next whole; more letters than a word may have make NO_WORD. */
        void readWord() {
            next();
            wordStart = place;
            long code = NO_WORD;
            while (place < length && isLetter(here())) {
                code = code * LETTERS + (here() - 'a' + 1);
                place++;
            }
            wordLength = place - wordStart;
            wordCode = wordLength > LETTERS_MOST ? NO_WORD : code;
        }

        boolean failAtLetterTooMany() {
            return fail(UNFIT, wordStart + LETTERS_MOST);
        }
    }

    /** FIELDS in the order of their NAMES, so that a GROUP's parts stand right behind it. */
    private static final class Shape {
        final long[] names = new long[FIELDS_MOST];
        final int[] kinds = new int[FIELDS_MOST];
        final int[] marks = new int[FIELDS_MOST];
        /** The GROUP that a FIELD stands in; NONE outside of all. */
        final int[] holders = new int[FIELDS_MOST];
        /** The first FIELD behind a FIELD and all its parts. */
        final int[] ends = new int[FIELDS_MOST];
        final int[] deep = new int[FIELDS_MOST];
        final int[] again = new int[FIELDS_MOST];
        /** How many GROUPS a FIELD stands in. */
        final int[] groupsOn = new int[FIELDS_MOST];
        /** The LEAF that a FIELD is; NONE for a GROUP. */
        final int[] leafOf = new int[FIELDS_MOST];
        final int[] leafFields = new int[LEAVES_MOST];
        int fields = 0;
        int leaves = 0;

        void clear() {
            fields = 0;
            leaves = 0;
        }

        boolean isField(int f) {
            return f >= 0 && f < fields && f < FIELDS_MOST;
        }

        int fieldOfLeaf(int c) {
            return c >= 0 && c < leaves && c < LEAVES_MOST ? leafFields[c] : NONE;
        }

        /** Adds a FIELD without KIND and MARK, which come later: its number. */
        int add(long name, int holder) {
            if (fields >= FIELDS_MOST) {
                return NONE;
            }
            int f = fields;
            fields++;
            names[f] = name;
            holders[f] = holder;
            kinds[f] = GROUP;
            marks[f] = ONE;
            ends[f] = fields;
            leafOf[f] = NONE;
            return f;
        }

        boolean makeLeaf(int f, int kind) {
            if (leaves >= LEAVES_MOST || !isField(f)) {
                return false;
            }
            kinds[f] = kind;
            leafOf[f] = leaves;
            leafFields[leaves] = f;
            leaves++;
            return true;
        }

        int find(int holder, long name) {
            for (int f = 0; f < fields; f++) {
                if (holders[f] == holder && names[f] == name) {
                    return f;
                }
            }
            return NONE;
        }

        /** Fills in what needs the MARKS of the GROUPS, which stand behind their parts. */
        void measure() {
            for (int f = 0; f < fields; f++) {
                int holder = holders[f];
                boolean inside = isField(holder);
                deep[f] = deepUpTo(holder) + (marks[f] == ONE ? 0 : 1);
                again[f] = (inside ? again[holder] : 0) + (marks[f] == MANY ? 1 : 0);
                groupsOn[f] = inside ? groupsOn[holder] + 1 : 0;
            }
        }

        /** How many opt and many there are up to a FIELD; 0 for NONE, the outside. */
        int deepUpTo(int f) {
            return isField(f) ? deep[f] : 0;
        }

        /** Whether FIELD f is on the road to a FIELD, or is that one. */
        boolean isOnRoad(int f, int to) {
            return isField(f) && to >= f && to < ends[f];
        }

        /** How many many there are on the roads to both LEAVES. */
        int sharedMany(int a, int b) {
            int fieldA = fieldOfLeaf(a);
            int fieldB = fieldOfLeaf(b);
            int most = 0;
            for (int f = 0; f < fields; f++) {
                if (isOnRoad(f, fieldA) && isOnRoad(f, fieldB)) {
                    most = Math.max(most, again[f]);
                }
            }
            return most;
        }
    }

    /** Reads a SHAPE from the tape. */
    private static final class ShapeReader {
        private final Tape tape;
        private final Shape shape;
        private int open;
        private int depth;

        ShapeReader(Tape from, Shape into) {
            tape = from;
            shape = into;
            open = NONE;
            depth = 0;
        }

        boolean readAll() {
            tape.begin();
            shape.clear();
            boolean more = true;
            // Each part takes a byte at least: a LEAF, a GROUP up to its [ , or from its ] on.
            for (int part = 0; part <= TAPE_MOST && more; part++) {
                int here = tape.next();
                if (here == END) {
                    more = readEnd();
                } else {
                    more = here == ']' ? readClose() : readField();
                }
            }
            shape.measure();
            return tape.flaw == 0;
        }

        /** False, as all that reads a part answers when there is no more to read. */
        private boolean readEnd() {
            if (open != NONE) {
                return tape.failHere(UNFIT);
            }
            if (shape.fields == 0) {
                return tape.failHere(SHAPE_LIMIT);
            }
            return false;
        }

        private boolean readClose() {
            if (!shape.isField(open)) {
                return tape.failHere(UNFIT);
            }
            if (shape.fields == open + 1) {
                return tape.failHere(SHAPE_LIMIT);
            }
            tape.place++;
            int closed = open;
            shape.ends[closed] = shape.fields;
            open = shape.holders[closed];
            depth--;
            return readMark(closed);
        }

        private boolean readField() {
            if (!readName()) {
                return false;
            }
            int f = shape.add(tape.wordCode, open);
            if (f == NONE) {
                return tape.fail(SHAPE_LIMIT, tape.wordStart);
            }
            return tape.next() == '[' ? readOpen(f) : readLeaf(f);
        }

        private boolean readName() {
            tape.readWord();
            if (tape.wordLength == 0 || isKeyWord(tape.wordCode)) {
                return tape.fail(UNFIT, tape.wordStart);
            }
            if (tape.wordLength > LETTERS_MOST) {
                return tape.failAtLetterTooMany();
            }
            if (shape.find(open, tape.wordCode) != NONE) {
                return tape.fail(SHAPE_NAME_AGAIN, tape.wordStart);
            }
            return true;
        }

        private boolean readOpen(int f) {
            if (depth >= DEEPEST_GROUP) {
                return tape.failHere(SHAPE_LIMIT);
            }
            tape.place++;
            open = f;
            depth++;
            return true;
        }

        private boolean readLeaf(int f) {
            tape.readWord();
            boolean isNum = tape.wordCode == NUM_WORD;
            if (!isNum && tape.wordCode != WORD_WORD) {
                return tape.fail(UNFIT, tape.wordStart);
            }
            if (!shape.makeLeaf(f, isNum ? NUM : WORD)) {
                return tape.fail(SHAPE_LIMIT, tape.wordStart);
            }
            return readMark(f);
        }

        private boolean readMark(int f) {
            tape.readWord();
            int mark = markOf(tape.wordCode);
            if (mark == NONE || !shape.isField(f)) {
                return tape.fail(UNFIT, tape.wordStart);
            }
            shape.marks[f] = mark;
            return tape.pass(';');
        }

        private static int markOf(long word) {
            if (word == ONE_WORD) {
                return ONE;
            }
            if (word == OPT_WORD) {
                return OPT;
            }
            return word == MANY_WORD ? MANY : NONE;
        }

        private static boolean isKeyWord(long word) {
            return word == NUM_WORD || word == WORD_WORD || markOf(word) != NONE;
        }
    }

    /** Reads a PAPER from the tape and lays its ROWS as it goes; a FAULT leaves some of them behind. */
    private static final class PaperReader {
        private final Tape tape;
        private final Shape shape;
        private final Table[] tables;
        private final int paper;
        /** Which FIELDS of the open GROUPS are there. */
        private final boolean[] there;
        /** The LEVEL with which each open GROUP comes, the outside first. */
        private final int[] levels;
        private int open;
        private int depth;

        PaperReader(Tape from, Shape by, Table[] into, int number) {
            tape = from;
            shape = by;
            tables = into;
            paper = number;
            there = new boolean[FIELDS_MOST];
            levels = new int[DEEPEST_GROUP + 1];
            open = NONE;
            depth = 0;
        }

        boolean readAll() {
            tape.begin();
            boolean more = true;
            // Each part takes a byte at least: an ENTRY, a GROUP's up to its [ , or from its ] on.
            for (int part = 0; part <= TAPE_MOST && more; part++) {
                int here = tape.next();
                if (here == END) {
                    more = readEnd();
                } else {
                    more = here == ']' ? readClose() : readEntry();
                }
            }
            return tape.flaw == 0;
        }

        /** False, as all that reads a part answers when there is no more to read. */
        private boolean readEnd() {
            if (open != NONE) {
                return tape.failHere(UNFIT);
            }
            layLacking();
            return false;
        }

        private boolean readClose() {
            if (!shape.isField(open)) {
                return tape.failHere(UNFIT);
            }
            if (!layLacking()) {
                return false;
            }
            tape.place++;
            open = shape.holders[open];
            depth--;
            return tape.pass(';');
        }

        private boolean readEntry() {
            int f = readName();
            if (!shape.isField(f) || !tape.pass(':')) {
                return false;
            }
            int kind = kindBegunBy(tape.next());
            if (kind != shape.kinds[f]) {
                return tape.failHere(kind == NONE ? UNFIT : PAPER_OTHER_KIND);
            }
            int level = there[f] ? shape.again[f] : levelHere();
            there[f] = true;
            switch (kind) {
                case NUM:
                    return readNumber(f, level);
                case WORD:
                    return readLetters(f, level);
                default:
                    return readOpen(f, level);
            }
        }

        /** The FIELD of the open GROUP whose NAME comes next; NONE with a FAULT. */
        private int readName() {
            tape.readWord();
            int f = shape.find(open, tape.wordCode);
            if (tape.wordLength == 0) {
                tape.failHere(UNFIT);
                return NONE;
            }
            if (!shape.isField(f)) {
                tape.fail(PAPER_NAME_UNKNOWN, tape.wordStart);
                return NONE;
            }
            if (there[f] && shape.marks[f] != MANY) {
                tape.fail(PAPER_NAME_AGAIN, tape.wordStart);
                return NONE;
            }
            return f;
        }

        private static int kindBegunBy(int b) {
            if (b == '-' || isDigit(b)) {
                return NUM;
            }
            if (isLetter(b)) {
                return WORD;
            }
            return b == '[' ? GROUP : NONE;
        }

        private boolean readNumber(int f, int level) {
            boolean below = tape.here() == '-';
            if (below) {
                tape.place++;
            }
            int digits = 0;
            long number = 0;
            while (digits < DIGITS_MOST && isDigit(tape.here())) {
                number = number * 10 + (tape.here() - '0');
                tape.place++;
                digits++;
            }
            if (digits == 0 || isDigit(tape.here())) {
                return tape.failHere(UNFIT);
            }
            lay(shape.leafOf[f], level, shape.deep[f], below ? -number : number);
            return tape.pass(';');
        }

        private boolean readLetters(int f, int level) {
            tape.readWord();
            if (tape.wordLength > LETTERS_MOST) {
                return tape.failAtLetterTooMany();
            }
            lay(shape.leafOf[f], level, shape.deep[f], tape.wordCode);
            return tape.pass(';');
        }

        private boolean readOpen(int f, int level) {
            if (depth >= DEEPEST_GROUP) {
                return tape.failHere(UNFIT);
            }
            tape.place++;
            open = f;
            depth++;
            levels[depth] = level;
            for (int part = f + 1; part < shape.ends[f] && part < FIELDS_MOST; part++) {
                there[part] = false;
            }
            return true;
        }

        private int levelHere() {
            return depth >= 0 && depth <= DEEPEST_GROUP ? levels[depth] : 0;
        }

        /** Lays a ROW for each LEAF below what lacks in the open GROUP; false at a one that lacks. */
        private boolean layLacking() {
            for (int f = 0; f < shape.fields; f++) {
                if (shape.holders[f] == open && !there[f]) {
                    if (shape.marks[f] == ONE) {
                        return tape.failHere(PAPER_PART_LACKS);
                    }
                    layLackingLeaves(f);
                }
            }
            return true;
        }

        private void layLackingLeaves(int f) {
            for (int c = 0; c < shape.leaves; c++) {
                if (shape.isOnRoad(f, shape.fieldOfLeaf(c))) {
                    lay(c, levelHere(), shape.deepUpTo(open), 0);
                }
            }
        }

        private void lay(int c, int level, int told, long value) {
            Table table = c >= 0 && c < tables.length ? tables[c] : null;
            if (table != null) {
                table.add(paper, level, told, value);
            }
        }
    }

    /** The ROWS of a LEAF, and what its SHAPE says of it. */
    private static final class Table {
        int[] levels = new int[ROWS_AT_FIRST];
        int[] tolds = new int[ROWS_AT_FIRST];
        int[] paperOf = new int[ROWS_AT_FIRST];
        long[] values = new long[ROWS_AT_FIRST];
        int count = 0;
        int deep = 0;
        int again = 0;
        boolean isNum = false;
        int groups = 0;

        void begin(int leafDeep, int leafAgain, boolean leafIsNum, int leafGroups) {
            count = 0;
            deep = leafDeep;
            again = leafAgain;
            isNum = leafIsNum;
            groups = leafGroups;
        }

        void add(int paper, int level, int told, long value) {
            if (count >= ROWS_MOST) {
                return;
            }
            if (count >= levels.length) {
                int size = count + count / 2 + ROWS_AT_FIRST;
                levels = Arrays.copyOf(levels, size);
                tolds = Arrays.copyOf(tolds, size);
                paperOf = Arrays.copyOf(paperOf, size);
                values = Arrays.copyOf(values, size);
            }
            levels[count] = level;
            tolds[count] = told;
            paperOf[count] = paper;
            values[count] = value;
            count++;
        }

        /** Takes a PAPER's ROWS out; the PAPERS behind it move up. */
        void forget(int paper) {
            int kept = 0;
            for (int k = 0; k < count; k++) {
                if (paperOf[k] != paper) {
                    levels[kept] = levels[k];
                    tolds[kept] = tolds[k];
                    paperOf[kept] = paperOf[k] > paper ? paperOf[k] - 1 : paperOf[k];
                    values[kept] = values[k];
                    kept++;
                }
            }
            count = kept;
        }

        boolean isRow(int k) {
            return k >= 0 && k < count;
        }

        /** A ROW that is told as far as the LEAF goes has a VALUE, and no other has. */
        boolean hasValue(int k) {
            return isRow(k) && tolds[k] == deep;
        }

        boolean hasLevel(int k, int level) {
            return isRow(k) && levels[k] == level;
        }

        boolean hasValueWithin(int k, long least, long greatest) {
            return hasValue(k) && values[k] >= least && values[k] <= greatest;
        }

        int firstRowOf(int paper) {
            for (int k = 0; k < count; k++) {
                if (paperOf[k] == paper) {
                    return k;
                }
            }
            return NONE;
        }

        int countValues() {
            int found = 0;
            for (int k = 0; k < count; k++) {
                if (hasValue(k)) {
                    found++;
                }
            }
            return found;
        }

        int countUnlike() {
            int found = 0;
            for (int k = 0; k < count; k++) {
                if (hasValue(k) && !hasValueAhead(k)) {
                    found++;
                }
            }
            return found;
        }

        private boolean hasValueAhead(int k) {
            for (int ahead = 0; ahead < k; ahead++) {
                if (values[ahead] == values[k] && hasValue(ahead)) {
                    return true;
                }
            }
            return false;
        }

        int measureSize() {
            int unlike = countUnlike();
            int bits = 0;
            while (bits < 30 && (1 << bits) < unlike) {
                bits++;
            }
            int levelBytes = again == 0 ? 0 : 2 * countRuns(levels);
            int toldBytes = deep == 0 ? 0 : 2 * countRuns(tolds);
            return levelBytes + toldBytes + 8 * unlike + (bits * countValues() + 7) / 8;
        }

        private int countRuns(int[] numbers) {
            int found = 0;
            for (int k = 0; k < count && k < numbers.length; k++) {
                if (k == 0 || numbers[k] != numbers[k - 1]) {
                    found++;
                }
            }
            return found;
        }

        /** The first ROW behind ROW k that is of a LEVEL up to the one told: there the next stretch begins. */
        int stretchEnd(int k, int level) {
            for (int end = k + 1; end < count; end++) {
                if (levels[end] <= level) {
                    return end;
                }
            }
            return count;
        }

        boolean holdsInStretch(int k, int level, long value) {
            int end = stretchEnd(k, level);
            for (int r = k; r < end; r++) {
                if (hasValueWithin(r, value, value)) {
                    return true;
                }
            }
            return false;
        }
    }

    /** The bytes of the latest TEXT. */
    private static final class Text {
        // A TEXT takes no more than the tape that its PAPER was read from.
        final byte[] bytes = new byte[TAPE_MOST];
        int length = 0;

        int byteAt(int k) {
            return k >= 0 && k < length && k < TAPE_MOST ? bytes[k] & 255 : NONE;
        }

        void put(int b) {
            if (length < TAPE_MOST) {
                bytes[length] = (byte) b;
                length++;
            }
        }

        void putWord(long word) {
            for (long unit = HIGHEST_LETTER; unit > 0; unit /= LETTERS) {
                long letter = word / unit % LETTERS;
                if (letter > 0) {
                    put((int) ('a' - 1 + letter));
                }
            }
        }

        void putNumber(long number) {
            if (number < 0) {
                put('-');
            }
            long size = Math.abs(number);
            for (long unit = HIGHEST_DIGIT; unit > 0; unit /= 10) {
                if (size >= unit || unit == 1) {
                    put((int) ('0' + size / unit % 10));
                }
            }
        }
    }

    /** Puts a PAPER together from the TABLES, with one ROW of each wanted LEAF in hand. */
    private static final class TextWriter {
        private final Shape shape;
        private final Table[] tables;
        private final int bits;
        private final Text out;
        private final int[] inHand;

        TextWriter(Shape by, Table[] from, int wanted, Text into) {
            shape = by;
            tables = from;
            bits = wanted;
            out = into;
            inHand = new int[LEAVES_MOST];
        }

        void writeAll(int paper) {
            out.length = 0;
            for (int c = 0; c < LEAVES_MOST; c++) {
                Table table = wantedTable(c);
                inHand[c] = table == null ? NONE : table.firstRowOf(paper);
            }
            writeParts(NONE, 0);
        }

        private Table wantedTable(int c) {
            boolean known = c >= 0 && c < shape.leaves && c < LEAVES_MOST && c < tables.length;
            return known && (bits >> c & 1) == 1 ? tables[c] : null;
        }

        private void writeParts(int holder, int depth) {
            if (depth > DEEPEST_GROUP) {
                return;
            }
            for (int f = 0; f < shape.fields; f++) {
                if (shape.holders[f] == holder) {
                    writeField(f, depth);
                }
            }
        }

        /** Writes a FIELD as often as it comes where the ROWS in hand stand. */
        private void writeField(int f, int depth) {
            int c = firstWantedLeaf(f);
            Table table = wantedTable(c);
            if (table == null || !table.isRow(inHand[c])) {
                return;
            }
            if (table.tolds[inHand[c]] < shape.deep[f]) {
                passLacking(f);
                return;
            }
            boolean more = true;
            for (int times = 0; times < TAPE_MOST && more; times++) {
                out.putWord(shape.names[f]);
                out.put(':');
                if (shape.kinds[f] == GROUP) {
                    writeGroup(f, depth);
                } else {
                    writeLeaf(c);
                }
                out.put(';');
                // A one or opt shares its LEVEL with the many ahead of it and never comes again by itself.
                more = shape.marks[f] == MANY && table.hasLevel(inHand[c], shape.again[f]);
            }
        }

        private void writeGroup(int f, int depth) {
            out.put('[');
            writeParts(f, depth + 1);
            out.put(']');
        }

        private void writeLeaf(int c) {
            Table table = wantedTable(c);
            if (table == null || !table.hasValue(inHand[c])) {
                return;
            }
            long value = table.values[inHand[c]];
            inHand[c]++;
            if (table.isNum) {
                out.putNumber(value);
            } else {
                out.putWord(value);
            }
        }

        private int firstWantedLeaf(int f) {
            for (int c = 0; c < shape.leaves; c++) {
                if (isWantedBelow(f, c)) {
                    return c;
                }
            }
            return NONE;
        }

        /** Each wanted LEAF below a FIELD that lacks has one ROW for that. */
        private void passLacking(int f) {
            for (int c = 0; c < shape.leaves && c < LEAVES_MOST; c++) {
                if (isWantedBelow(f, c)) {
                    inHand[c]++;
                }
            }
        }

        private boolean isWantedBelow(int f, int c) {
            return wantedTable(c) != null && shape.isOnRoad(f, shape.fieldOfLeaf(c));
        }
    }
}
