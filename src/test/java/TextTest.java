/** Promises 11 and 12: text and at. */
public final class TextTest {
    private static final Check CHECK = new Check("TextTest");
    private static final String SHAPE =
        "name word one; links [back num many; fwd num many;] opt; tags [key word one; note [txt word opt; n num one;] many;] many;";

    public static void main(String[] args) {
        wholeText();
        someLeaves();
        numbersAndWords();
        lacking();
        refused();
        otherPapers();
        CHECK.finish();
    }

    private static void wholeText() {
        String whole = "name:ab;links:[back:3;back:-4;fwd:7;];tags:[key:x;note:[txt:q;n:1;];note:[n:2;];];tags:[key:y;];";
        TreeTables x = Check.with(SHAPE, whole,
            " tags: [note: [n: 1; txt: q;]; key: x; note: [n: 2;];]; links: [fwd: 007; back: 3; back: -4;];\ntags: [key: y;]; name: ab;");
        CHECK.due("text(0)", Check.textOf(x, 0, 63), whole);
        CHECK.due("text(1)", Check.textOf(x, 1, 63), whole);
        CHECK.due("text(1, -1)", Check.textOf(x, 1, -1), whole);
        CHECK.due("text(1, -1)", x.text(1, -1), whole.length());
    }

    private static void someLeaves() {
        TreeTables x = Check.with(SHAPE,
            "name:ab;links:[back:3;back:-4;];tags:[key:x;note:[txt:q;n:1;];note:[n:2;];];tags:[key:y;];tags:[key:z;note:[n:3;];];");
        CHECK.due("none", x.text(0, 0), 0);
        CHECK.due("none", x.at(0), -1);
        CHECK.due("bits behind the LEAVES", x.text(0, ~63), 0);
        CHECK.due("name", Check.textOf(x, 0, 1), "name:ab;");
        CHECK.due("back", Check.textOf(x, 0, 2), "links:[back:3;back:-4;];");
        CHECK.due("fwd", Check.textOf(x, 0, 4), "links:[];");
        CHECK.due("key", Check.textOf(x, 0, 8), "tags:[key:x;];tags:[key:y;];tags:[key:z;];");
        CHECK.due("txt", Check.textOf(x, 0, 16), "tags:[note:[txt:q;];note:[];];tags:[];tags:[note:[];];");
        CHECK.due("n", Check.textOf(x, 0, 32), "tags:[note:[n:1;];note:[n:2;];];tags:[];tags:[note:[n:3;];];");
        CHECK.due("name, fwd, key, n", Check.textOf(x, 0, 1 + 4 + 8 + 32),
            "name:ab;links:[];tags:[key:x;note:[n:1;];note:[n:2;];];tags:[key:y;];tags:[key:z;note:[n:3;];];");
    }

    private static void numbersAndWords() {
        TreeTables x = Check.with("abcdefgh num many; z word many;",
            "abcdefgh: 0; abcdefgh: -0; abcdefgh: 000; abcdefgh: 010; abcdefgh: -00100; abcdefgh: 999999; abcdefgh: -999999;",
            "z: a; z: z; z: az; z: zzzzzzzz; z: aaaaaaaa; z: abcdefgh; z: num;");
        CHECK.due("numbers", Check.textOf(x, 0, 3),
            "abcdefgh:0;abcdefgh:0;abcdefgh:0;abcdefgh:10;abcdefgh:-100;abcdefgh:999999;abcdefgh:-999999;");
        CHECK.due("words", Check.textOf(x, 1, 3), "z:a;z:z;z:az;z:zzzzzzzz;z:aaaaaaaa;z:abcdefgh;z:num;");
    }

    private static void lacking() {
        TreeTables x = Check.with("a num opt; b [c num opt; d [e num many;] many;] opt; f num opt;", "", "b: [];",
            "b: [d: []; d: [e: 1; e: 2;]; d: [];]; f: 1;");
        CHECK.due("text(0)", Check.textOf(x, 0, -1), "");
        CHECK.due("text(1)", Check.textOf(x, 1, -1), "b:[];");
        CHECK.due("text(2)", Check.textOf(x, 2, -1), "b:[d:[];d:[e:1;e:2;];d:[];];f:1;");
        CHECK.due("text(2), c", Check.textOf(x, 2, 2), "b:[];");
        CHECK.due("text(2), e", Check.textOf(x, 2, 4), "b:[d:[];d:[e:1;e:2;];d:[];];");
    }

    private static void refused() {
        TreeTables x = Check.with("a num one;", "a: 12;");
        CHECK.due("at(0) ahead of any text", x.at(0), -1);
        CHECK.due("text(0, 1)", x.text(0, 1), 5);
        CHECK.due("text(1, 1)", x.text(1, 1), -1);
        CHECK.due("text(-1, 1)", x.text(-1, 1), -1);
        CHECK.due("text(greatest, 1)", x.text(Integer.MAX_VALUE, 1), -1);
        CHECK.due("the text that was not refused", Check.latestText(x), "a:12;");
        CHECK.due("at(4)", x.at(4), ';');
        CHECK.due("at(5)", x.at(5), -1);
        CHECK.due("at(-1)", x.at(-1), -1);
        CHECK.due("at(least)", x.at(Integer.MIN_VALUE), -1);
        CHECK.due("at(greatest)", x.at(Integer.MAX_VALUE), -1);
        x.text(0, 0);
        CHECK.due("an empty text", x.at(0), -1);
    }

    private static void otherPapers() {
        TreeTables x = Check.with("a num many; b [c word many;] many;", "a: 1; a: 2;", "b: [c: x; c: y;]; b: [c: z;];", "a: 3; b: [];");
        CHECK.due("text(0)", Check.textOf(x, 0, -1), "a:1;a:2;");
        CHECK.due("text(1)", Check.textOf(x, 1, -1), "b:[c:x;c:y;];b:[c:z;];");
        CHECK.due("text(2)", Check.textOf(x, 2, -1), "a:3;b:[];");
        x.drop(0);
        CHECK.due("the latest text stays", Check.latestText(x), "a:3;b:[];");
        CHECK.due("text(0)", Check.textOf(x, 0, -1), "b:[c:x;c:y;];b:[c:z;];");
        CHECK.due("text(1)", Check.textOf(x, 1, -1), "a:3;b:[];");
    }
}
