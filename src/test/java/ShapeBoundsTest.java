/** Terms I, sentence by sentence: the bounds of THE SHAPE's TEXT, and each FAULT at the place that is named for it. */
public final class ShapeBoundsTest {
    private static final Check CHECK = new Check("ShapeBoundsTest");
    private static final String[] KEY_WORDS = {"num", "word", "one", "opt", "many"};

    public static void main(String[] args) {
        blanks();
        anyByteInAnyPlace();
        wordsSideBySide();
        nameLengths();
        keyWords();
        likeNames();
        kindsAndMarks();
        emptyGroups();
        leafNumbers();
        twelveLeaves();
        fourDeep();
        firstAlongTheText();
        wordsWhole();
        endsTooSoon();
        noFields();
        deepAndAgain();
        CHECK.finish();
    }

    private static void whole(String text, int leaves) {
        CHECK.dueLeaves(text, leaves);
    }

    private static void fault(String text, int kind, int place) {
        CHECK.dueShapeFault(text, kind, place);
    }

    private static void blanks() {
        CHECK.sentence("I: with blanks (10, 32) between where one likes");
        whole("a num one;", 1);
        whole("a[b num one;]many;c word opt;", 2);
        whole(" \n a \n [ \n b \n num \n one \n ; \n c \n word \n opt \n ; \n ] \n many \n ; \n ", 2);
        whole(" ".repeat(390) + "a num one;", 1);
        whole("a num one;" + "\n".repeat(390), 1);
        fault("a nu m one;", 1, 2);
        fault("a num o ne;", 1, 6);
        fault("a b num one;", 1, 2);
    }

    /** Each of the 256 bytes in five places of a SHAPE: which of them it may be, and where the FAULT is if not. */
    private static void anyByteInAnyPlace() {
        CHECK.sentence("I: FAULT 1 the first byte with which no SHAPE goes on");
        for (char b = 0; b < 256; b++) {
            boolean blank = Check.isBlank(b);
            boolean letter = Check.isLetter(b);
            dueByte(b + "a num one;", blank || letter ? -1 : 0);
            dueByte("a" + b + "num one;", blank ? -1 : letter ? 6 : b == '[' ? 2 : 1);
            dueByte("a num" + b + "one;", blank ? -1 : letter ? 2 : 5);
            dueByte("a num one" + b + ";", blank ? -1 : letter ? 6 : b == ';' ? 10 : 9);
            if (b != 'a') {
                dueByte("a num one;" + b, blank ? -1 : letter ? 11 : 10);
            }
            dueByte("a[b num one;" + b + "]one;", blank ? -1 : b == ']' ? 13 : letter && b != 'b' ? 13 : b == 'b' ? -2 : 12);
            dueByte("a[b num one;]" + b + "one;", blank ? -1 : 13);
        }
    }

    /** Place -1: no FAULT; -2: the byte makes a NAME come again, at place 12. */
    private static void dueByte(String text, int place) {
        if (place == -1) {
            whole(text, 1);
        } else if (place == -2) {
            fault(text, 2, 12);
        } else {
            fault(text, 1, place);
        }
    }

    private static void wordsSideBySide() {
        CHECK.sentence("I: words side by side need one");
        fault("anum one;", 1, 5);
        fault("a numone;", 1, 2);
        fault("anumone;", 1, 7);
        fault("a[b numone;]one;", 1, 4);
        whole("a\nnum\none;", 1);
        whole("a[b num one;]one;b num one;", 2);
    }

    private static void nameLengths() {
        CHECK.sentence("I: NAME: 1 to 8 letters; FAULT 1: a 9th letter of a NAME at itself");
        String letters = "azbycxdwevfu";
        for (int length = 1; length <= 12; length++) {
            String name = letters.substring(0, length);
            if (length <= 8) {
                whole(name + " num one;", 1);
                whole("g[" + name + "[" + name + " num one;]one;]one;", 1);
            } else {
                fault(name + " num one;", 1, 8);
                fault(name, 1, 8);
                fault(" \n" + name + "[", 1, 10);
                fault("g[" + name + " num one;]one;", 1, 10);
            }
        }
        fault("x".repeat(400), 1, 8);
        fault(" num one;", 1, 1);
        fault("g[ [b num one;]one;]one;", 1, 3);
        fault("num".repeat(3) + " num one;", 1, 8);
    }

    private static void keyWords() {
        CHECK.sentence("I: NAME: not num, word, one, opt, many");
        for (String word : KEY_WORDS) {
            fault(word + " num one;", 1, 0);
            fault(word + "[a num one;]one;", 1, 0);
            fault("a num one; " + word + " num one;", 1, 11);
            fault("a[ " + word + " num one;]one;", 1, 3);
            whole(word + "x num one; x" + word + " num one; " + word.substring(1) + " num one;", 3);
            whole("a" + word + " num one;" + word.substring(0, word.length() - 1) + " num one;", 2);
        }
    }

    private static void likeNames() {
        CHECK.sentence("I: NAME: unlike within its group; FAULT 2 a NAME that is in its group already, at its first byte");
        fault("a num one; a num one;", 2, 11);
        fault("a num one; \n a[b num one;]one;", 2, 13);
        fault("a[b num one;]one;a num one;", 2, 17);
        fault("a[b num one;c num one;b num one;]one;", 2, 22);
        fault("abcdefgh num one;abcdefgh num one;", 2, 17);
        fault("a num one;b[c num one;]one;b[d num one;]one;", 2, 27);
        fault("a num one;a", 2, 10);
        fault("a num one;a5", 2, 10);
        CHECK.sentence("I: NAME: unlike within its group (and not beyond it)");
        whole("a[a[a[a[a num one;]one;]one;]one;]one;", 1);
        whole("a[b num one;]one;b num one;", 2);
        whole("b num one;a[b num one;]one;c[b num one;]one;", 3);
        whole("a[c[b num one;]one;b num one;]one;", 2);
        whole("abcdefgh num one;abcdefgg num one;bbcdefgh num one;abcdefg num one;", 4);
        fault("abcdefgh num one;abcdefghi num one;", 1, 25);
    }

    private static void kindsAndMarks() {
        CHECK.sentence("I: KIND: num, word, or a GROUP");
        whole("a num one;b word one;c[d num one;]one;", 3);
        for (String kind : new String[] {"one", "opt", "many", "nums", "nu", "wor", "words", "x", "abcdefghi"}) {
            fault("a " + kind + " one;", 1, 2);
        }
        fault("a ];", 1, 2);
        fault("a ;", 1, 2);
        fault("a 5;", 1, 2);
        CHECK.sentence("I: MARK: one, opt, many");
        whole("a num one;b num opt;c num many;d[e num one;]one;f[e num one;]opt;g[e num one;]many;", 6);
        for (String mark : new String[] {"num", "word", "on", "ones", "op", "opts", "man", "manys", "abcdefghi"}) {
            fault("a num " + mark + ";", 1, 6);
            fault("a[b num one;]" + mark + ";", 1, 13);
        }
        fault("a num;", 1, 5);
        fault("a[b num one;];", 1, 13);
        fault("a num one one;", 1, 10);
    }

    private static void emptyGroups() {
        CHECK.sentence("I: a GROUP (one FIELD at least); FAULT 3 a GROUP without FIELDS, at its ]");
        whole("a[b num one;]one;", 1);
        fault("a[]one;", 3, 2);
        fault("a [ \n ] one;", 3, 6);
        fault("a[]", 3, 2);
        fault("a[b num one;c[]one;]one;", 3, 14);
        fault("a[b num one;]one;c[]one;", 3, 19);
        fault("a[b[c[d[]one;]one;]one;]one;", 3, 8);
        CHECK.sentence("I: FAULT 1 (a ] where no GROUP is open)");
        fault("]", 1, 0);
        fault("a num one;]", 1, 10);
        fault("a[b num one;]one;]", 1, 17);
    }

    private static void leafNumbers() {
        CHECK.sentence("I: LEAVES (num, word), numbered from 0 on as their NAMES come");
        TreeTables x = Check.with("z[y[x num many;]opt;w word one;]one;a num opt;b[c word many;]many;");
        int[][] due = {{2, 1, 1, 2}, {0, 0, 0, 1}, {1, 0, 1, 0}, {2, 2, 0, 1}};
        for (int c = 0; c < 4; c++) {
            for (int what = 0; what < 4; what++) {
                CHECK.due("leaf(" + c + ", " + what + ")", x.leaf(c, what), due[c][what]);
            }
        }
        CHECK.due("a GROUP is no LEAF: leaf(4, 0)", x.leaf(4, 0), -1);
    }

    private static String leaves(int count, char first) {
        StringBuilder out = new StringBuilder();
        for (int c = 0; c < count; c++) {
            out.append((char) (first + c)).append(c % 2 == 0 ? " num one;" : " word one;");
        }
        return out.toString();
    }

    private static void twelveLeaves() {
        CHECK.sentence("I: LEAVES: 12 at most; FAULT 3 a 13th LEAF, at its KIND's first byte");
        String eleven = leaves(11, 'a');
        String twelve = leaves(12, 'a');
        int end = twelve.length();
        whole(eleven, 11);
        whole(twelve, 12);
        whole("g[" + leaves(6, 'a') + "]one;" + leaves(6, 'a'), 12);
        for (String kind : new String[] {"num", "word"}) {
            fault(twelve + "m " + kind + " one;", 3, end + 2);
            fault(twelve + " m \n " + kind, 3, end + 5);
            fault(twelve + "m[n " + kind + " one;]one;", 3, end + 4);
            fault("g[" + twelve + "m " + kind + " one;]one;", 3, end + 4);
            fault("g[" + twelve + "]one;m " + kind + " one;", 3, end + 9);
        }
        fault(twelve + "m int one;", 1, end + 2);
        fault(twelve + "m", 1, end + 1);
        fault(twelve + "m[]one;", 3, end + 2);
        fault(twelve + "l num one;", 2, end);
        TreeTables x = Check.with(twelve);
        CHECK.due("leaf(11, 2)", x.leaf(11, 2), 0);
        CHECK.due("leaf(12, 2)", x.leaf(12, 2), -1);
        CHECK.sentence("I: LEAVES: 12 at most (each of them in 4 GROUPS: the most FIELDS there can be)");
        whole("a[b[c[d[" + leaves(12, 'a') + "]one;]one;]one;]one;", 12);
        StringBuilder most = new StringBuilder();
        for (int c = 0; c < 10; c++) {
            most.append((char) ('a' + c)).append("[a[a[a[a num one;]one;]one;]one;]one;");
        }
        whole(most.toString(), 10);
        fault(most + "z[a[a[a[a", 1, most.length() + 9);
    }

    private static void fourDeep() {
        CHECK.sentence("I: GROUPS at most 4 deep (the outermost one is 1 deep); FAULT 3 a GROUP 5 deep, at its [");
        whole("a[b[c[d[e num one;]one;]one;]one;]one;", 1);
        fault("a[b[c[d[e[f num one;]one;]one;]one;]one;]one;", 3, 9);
        fault("a[b[c[d[e \n [", 3, 12);
        fault("a[b[c[d[e num one;f[", 3, 19);
        whole("a[b[c[d[e num one;]one;f[e num one;]one;]one;g[c[e num one;]one;]one;]one;]one;h[b[c[d[e num one;]one;]one;]one;]one;", 4);
        fault("a[b[c[d[e num one;]one;f[e num one;g[", 3, 36);
        fault("a[b num one;]one;a[b[c[d[e[", 2, 17);
        fault("z[b num one;]one;a[b[c[d[e[", 3, 26);
    }

    private static void firstAlongTheText() {
        CHECK.sentence("I: FAULTS, the first along the text");
        fault("a num two;a num one;b[]one;", 1, 6);
        fault("a num one;a num two;b[]one;", 2, 10);
        fault("b[]one;a num one;a num two;", 3, 2);
        fault(leaves(12, 'a') + "m num two;m num one;", 3, leaves(12, 'a').length() + 2);
        fault(leaves(12, 'a') + "l num two;", 2, leaves(12, 'a').length());
        fault("a[b[c[d[e[]one;", 3, 9);
        fault("a[b[c[d[d num one;d[", 2, 18);
        fault("abcdefghi num one;?", 1, 8);
    }

    private static void wordsWhole() {
        CHECK.sentence("I: FAULT 1: words whole, at their first byte");
        fault("a numb one;", 1, 2);
        fault("a wordy one;", 1, 2);
        fault("a \n nun one;", 1, 4);
        fault("a num onex;", 1, 6);
        fault("a num  manyy;", 1, 7);
        fault("a " + "num".repeat(40) + " one;", 1, 2);
        fault("a num " + "many".repeat(40) + ";", 1, 6);
        fault("a[b num one;] \n optt;", 1, 16);
        CHECK.sentence("I: FAULT 1: words whole (a word of another thing's letters is another one)");
        fault("a num5 one;", 1, 5);
        fault("a num one5;", 1, 9);
        fault("a5 num one;", 1, 1);
        fault("a nuM one;", 1, 2);
    }

    /** Each beginning of a SHAPE: whole at n bytes, cut within a KIND or MARK, or cut elsewhere. */
    private static void endsTooSoon() {
        CHECK.sentence("I: FAULT 1: at the text's length, if it ends too soon");
        String text = "ab num one; cd [ ef word opt ; ] many; ";
        for (int n = 1; n < text.length(); n++) {
            String part = text.substring(0, n);
            String lastWord = part.substring(part.lastIndexOf(' ') + 1);
            boolean isCutWord = n > 3 && lastWord.matches("n|nu|w|wo|wor|o|on|op|m|ma|man");
            if (n == 11 || n == 12 || n == 38) {
                whole(part, n == 38 ? 2 : 1);
            } else {
                fault(part, 1, isCutWord ? n - lastWord.length() : n);
            }
        }
        fault("a" + " ".repeat(399), 1, 400);
        fault("a[b num one;]one;c[" + "\n".repeat(381), 1, 400);
    }

    private static void noFields() {
        CHECK.sentence("I: FAULT 3 a SHAPE without FIELDS, at the text's length");
        fault("", 3, 0);
        fault(" ", 3, 1);
        fault("\n \n", 3, 3);
        fault(" ".repeat(400), 3, 400);
        fault(" ;", 1, 1);
    }

    private static void deepAndAgain() {
        CHECK.sentence("I: DEEP: how many opt and many on the road (its own, too); AGAIN: how many many");
        String[] marks = {"one", "opt", "many"};
        for (int group = 0; group < 3; group++) {
            for (int own = 0; own < 3; own++) {
                TreeTables x = Check.with("z num opt;g[y num many;a num " + marks[own] + ";]" + marks[group] + ";");
                String name = marks[group] + " " + marks[own];
                CHECK.due("DEEP of " + name, x.leaf(2, 0), (group > 0 ? 1 : 0) + (own > 0 ? 1 : 0));
                CHECK.due("AGAIN of " + name, x.leaf(2, 1), (group > 1 ? 1 : 0) + (own > 1 ? 1 : 0));
            }
        }
        TreeTables least = Check.with("a[b[c[d[e num one;]one;]one;]one;]one;");
        CHECK.due("the least DEEP", least.leaf(0, 0), 0);
        CHECK.due("the least AGAIN", least.leaf(0, 1), 0);
        TreeTables most = Check.with("a[b[c[d[e num many;]many;]many;]many;]many;");
        CHECK.due("the most DEEP", most.leaf(0, 0), 5);
        CHECK.due("the most AGAIN", most.leaf(0, 1), 5);
        CHECK.due("the most GROUPS", most.leaf(0, 3), 4);
    }
}
