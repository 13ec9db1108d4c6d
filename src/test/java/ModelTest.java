import java.util.HashSet;
import java.util.List;
import java.util.Random;
import java.util.Set;

/** All promises, by many SHAPES and PAPERS made at random (from fixed seeds), against the Model. */
public final class ModelTest {
    private static final Check CHECK = new Check("ModelTest");
    private static final String BYTES = "ab[]:;- \n09zone\t{A\u00ff";
    private final Random random;
    private final TreeTables x = new TreeTables();
    private final Model model = new Model();

    private ModelTest(int seed) {
        random = new Random(seed);
    }

    public static void main(String[] args) {
        int[] faults = new int[12];
        for (int seed = 0; seed < 1500; seed++) {
            new ModelTest(seed).run(faults);
        }
        for (int kind = 0; kind <= 3; kind++) {
            CHECK.due("SHAPES with FAULT " + kind + " were among them", faults[kind] > 20, true);
        }
        for (int kind = 0; kind <= 5; kind++) {
            CHECK.due("PAPERS with FAULT " + kind + " were among them", faults[6 + kind] > 100, true);
        }
        CHECK.finish();
    }

    private void run(int[] faults) {
        for (int n = 0; n < 6; n++) {
            String text = shapeText();
            if (random.nextInt(2) == 0) {
                text = spoil(text);
            }
            Check.load(x, text);
            CHECK.due("shape() of '" + text + "'", x.shape(), model.shape(text));
            CHECK.dueFault("shape() of '" + text + "'", x, model.fault, model.faultPlace);
            faults[model.fault]++;
            for (int p = random.nextInt(8); p > 0; p--) {
                readPaper(faults);
            }
            if (random.nextInt(2) == 0) {
                dropOne();
            }
            compare();
        }
    }

    private void readPaper(int[] faults) {
        String text = model.shape == null ? "a: 1;" : paperText();
        if (random.nextInt(3) == 0) {
            text = spoil(text);
        }
        Check.load(x, text);
        int due = model.paper(text);
        CHECK.due("paper() of '" + text + "'", x.paper(), due);
        CHECK.dueFault("paper() of '" + text + "'", x, model.fault, model.faultPlace);
        if (due != -2) {
            faults[6 + model.fault]++;
        }
    }

    private void dropOne() {
        int i = random.nextInt(9) - 1;
        int due = -1;
        if (i >= 0 && i < model.papers.size()) {
            model.papers.remove(i);
            due = model.papers.size();
        }
        CHECK.due("drop(" + i + ")", x.drop(i), due);
    }

    // ---- texts

    private String blank() {
        return random.nextInt(4) == 0 ? (random.nextInt(3) == 0 ? "\n" : " ") : "";
    }

    private String name() {
        String letters = "abcdefgh";
        return random.nextInt(12) == 0 ? letters.substring(random.nextInt(3)) : "" + (char) ('a' + random.nextInt(26));
    }

    private String shapeText() {
        StringBuilder out = new StringBuilder();
        int[] budget = {random.nextInt(14) == 0 ? 14 : 1 + random.nextInt(7)};
        addFields(out, 0, budget, random.nextInt(20) == 0 ? 5 : 4);
        return out.length() > 400 ? "a num one;" : out.toString();
    }

    private void addFields(StringBuilder out, int depth, int[] budget, int deepest) {
        int parts = random.nextInt(60) == 0 ? 0 : 1 + random.nextInt(depth == 0 ? 6 : 3);
        Set<String> names = new HashSet<>();
        for (int n = 0; n < parts && (n == 0 || budget[0] > 0); n++) {
            String name = name();
            if (!names.add(name) && random.nextInt(8) != 0) {
                continue;
            }
            out.append(blank()).append(name);
            if (depth < deepest && random.nextInt(5) < 2) {
                out.append(blank()).append('[');
                addFields(out, depth + 1, budget, deepest);
                out.append(']').append(blank());
            } else {
                budget[0]--;
                out.append(' ').append(random.nextBoolean() ? "num" : "word").append(' ');
            }
            out.append(new String[] {"one", "opt", "many"}[random.nextInt(3)]).append(blank()).append(';');
        }
        out.append(blank());
    }

    private String paperText() {
        for (int tries = 0; tries < 20; tries++) {
            StringBuilder out = new StringBuilder();
            addEntries(out, model.shape, tries < 10 ? 3 : 1);
            if (out.length() <= 400) {
                return out.toString();
            }
        }
        return "";
    }

    private void addEntries(StringBuilder out, Model.Field group, int most) {
        java.util.ArrayList<Model.Field> entries = new java.util.ArrayList<>();
        for (Model.Field part : group.parts) {
            int times = part.mark.equals("one") ? 1 : part.mark.equals("opt") ? random.nextInt(2) : random.nextInt(most + 1);
            if (random.nextInt(40) == 0) {
                times = random.nextInt(3);
            }
            for (int n = 0; n < times; n++) {
                entries.add(part);
            }
        }
        java.util.Collections.shuffle(entries, random);
        for (Model.Field part : entries) {
            out.append(blank()).append(part.name).append(blank()).append(':').append(blank());
            addValue(out, part, most);
            out.append(blank()).append(';');
        }
        out.append(blank());
    }

    private void addValue(StringBuilder out, Model.Field part, int most) {
        boolean other = random.nextInt(60) == 0;
        if (part.kind.equals("[") != other) {
            out.append('[');
            addEntries(out, other ? model.shape : part, other ? 0 : most);
            out.append(']');
        } else if (part.kind.equals("num") != other) {
            out.append(random.nextInt(4) == 0 ? "-" : "").append(random.nextInt(8) == 0 ? "00" : "");
            out.append(random.nextInt(10) == 0 ? random.nextInt(1500000) : random.nextInt(4));
        } else {
            for (int n = random.nextInt(8) == 0 ? 1 + random.nextInt(9) : 1; n > 0; n--) {
                out.append((char) ('a' + random.nextInt(3)));
            }
        }
    }

    private String spoil(String text) {
        StringBuilder out = new StringBuilder(text);
        int at = random.nextInt(out.length() + 1);
        int way = random.nextInt(4);
        char other = BYTES.charAt(random.nextInt(BYTES.length()));
        if (way == 0 && out.length() < 400) {
            out.insert(at, other);
        } else if (way == 1) {
            out.setLength(at);
        } else if (at < out.length() && way == 2) {
            out.setCharAt(at, other);
        } else if (at < out.length()) {
            out.deleteCharAt(at);
        }
        return out.toString();
    }

    // ---- comparing

    private void compare() {
        int leaves = model.leaves.size();
        for (int c = 0; c < leaves; c++) {
            compareTable(c);
        }
        CHECK.due("leaf(" + leaves + ", 0)", x.leaf(leaves, 0), -1);
        for (int i = 0; i < model.papers.size(); i++) {
            CHECK.due("text(" + i + ")", Check.textOf(x, i, -1), model.textOf(i, -1));
            int bits = random.nextInt();
            CHECK.due("text(" + i + ", " + bits + ")", Check.textOf(x, i, bits), model.textOf(i, bits));
        }
        CHECK.due("text behind the last", x.text(model.papers.size(), -1), -1);
        for (int n = 0; n < 12 && leaves > 0; n++) {
            int a = random.nextInt(leaves);
            int b = random.nextInt(leaves);
            long v = random.nextInt(4);
            long w = random.nextInt(4);
            CHECK.due("both(" + a + ", " + v + ", " + b + ", " + w + ")", x.both(a, v, b, w), model.both(a, v, b, w));
        }
    }

    private void compareTable(int c) {
        List<Model.Row> rows = model.table(c);
        CHECK.due("DEEP", x.leaf(c, 0), model.deep(c));
        CHECK.due("AGAIN", x.leaf(c, 1), model.again(c));
        CHECK.due("num", x.leaf(c, 2), model.leaves.get(c).kind.equals("num") ? 1 : 0);
        CHECK.due("GROUPS", x.leaf(c, 3), model.leaves.get(c).road().size() - 1);
        CHECK.due("ROWS", x.leaf(c, 4), rows.size());
        CHECK.due("with a VALUE", x.leaf(c, 5), rows.stream().filter(r -> r.has).count());
        CHECK.due("unlike", x.leaf(c, 6), rows.stream().filter(r -> r.has).map(r -> r.value).distinct().count());
        CHECK.due("SIZE", x.leaf(c, 7), model.size(c));
        for (int k = 0; k < rows.size(); k++) {
            Model.Row row = rows.get(k);
            CHECK.due("LEVEL", x.row(c, k, 0), row.level);
            CHECK.due("TOLD", x.row(c, k, 1), row.told);
            CHECK.due("has", x.row(c, k, 2), row.has ? 1 : 0);
            CHECK.due("PAPER", x.row(c, k, 3), row.paper);
            CHECK.due("VALUE", x.value(c, k), row.value);
        }
        CHECK.due("row behind the last", x.row(c, rows.size(), 0), -1);
        compareAsks(c, rows);
    }

    private void compareAsks(int c, List<Model.Row> rows) {
        long least = random.nextInt(6) - 2;
        long greatest = least + random.nextInt(4) - 1;
        CHECK.due("among", x.among(c, least, greatest),
            rows.stream().filter(r -> r.has && r.value >= least && r.value <= greatest).count());
        CHECK.due("papers", x.papers(c, least, greatest),
            rows.stream().filter(r -> r.has && r.value >= least && r.value <= greatest).map(r -> r.paper).distinct().count());
        boolean isNum = model.leaves.get(c).kind.equals("num");
        int i = random.nextInt(5) - 1;
        CHECK.due("sum", x.sum(c, i), !isNum ? 0 : rows.stream().filter(r -> r.has && (i == -1 || r.paper == i)).mapToLong(r -> r.value).sum());
        int level = random.nextInt(4) - 1;
        int told = random.nextInt(4) - 1;
        CHECK.due("rows", x.rows(c, level, told),
            rows.stream().filter(r -> (level == -1 || r.level == level) && (told == -1 || r.told == told)).count());
    }
}
