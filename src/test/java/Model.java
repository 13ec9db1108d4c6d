import java.util.ArrayList;
import java.util.HashSet;
import java.util.List;
import java.util.Set;

/**
 * The document once more, written for plainness and in another way than the class: PAPERS stay trees,
 * ROWS are found by walking them, and LEVELS by comparing a ROW's road with the one ahead.
 */
final class Model {
    static final class Field {
        String name;
        String kind;
        String mark;
        Field holder;
        int leaf = -1;
        final List<Field> parts = new ArrayList<>();

        boolean isCounted() {
            return !mark.equals("one");
        }

        List<Field> road() {
            List<Field> road = holder == null || holder.name == null ? new ArrayList<>() : holder.road();
            road.add(this);
            return road;
        }
    }

    static final class Node {
        Field field;
        long value;
        String written;
        final List<Node> parts = new ArrayList<>();

        List<Node> of(Field part) {
            List<Node> found = new ArrayList<>();
            for (Node node : parts) {
                if (node.field == part) {
                    found.add(node);
                }
            }
            return found;
        }
    }

    static final class Row {
        int paper;
        int level;
        int told;
        boolean has;
        long value;
        List<Integer> turns = new ArrayList<>();
    }

    private static final class Fault extends RuntimeException {
        private static final long serialVersionUID = 1;
        final int kind;
        final int place;

        Fault(int kind, int place) {
            this.kind = kind;
            this.place = place;
        }
    }

    Field shape = null;
    final List<Field> leaves = new ArrayList<>();
    final List<Node> papers = new ArrayList<>();
    int fault = 0;
    int faultPlace = -1;

    private String text;
    private int place;
    private List<Field> newLeaves;

    int shape(String from) {
        text = from;
        place = 0;
        newLeaves = new ArrayList<>();
        try {
            Field read = new Field();
            read.kind = "[";
            read.mark = "one";
            readFields(read, 0);
            if (!ended()) {
                throw new Fault(1, place);
            }
            if (read.parts.isEmpty()) {
                throw new Fault(3, text.length());
            }
            shape = read;
        } catch (Fault f) {
            fault = f.kind;
            faultPlace = f.place;
            return -1;
        }
        fault = 0;
        faultPlace = -1;
        papers.clear();
        leaves.clear();
        leaves.addAll(newLeaves);
        return leaves.size();
    }

    int paper(String from) {
        if (shape == null || papers.size() == 30) {
            return -2;
        }
        text = from;
        place = 0;
        try {
            Node read = new Node();
            read.field = shape;
            readEntries(read, false);
            papers.add(read);
        } catch (Fault f) {
            fault = f.kind;
            faultPlace = f.place;
            return -1;
        }
        fault = 0;
        faultPlace = -1;
        return papers.size();
    }

    // ---- reading

    private char next() {
        while (place < text.length() && (text.charAt(place) == ' ' || text.charAt(place) == '\n')) {
            place++;
        }
        return place < text.length() ? text.charAt(place) : '\0';
    }

    private boolean ended() {
        next();
        return place == text.length();
    }

    private String word() {
        next();
        int from = place;
        while (place < text.length() && text.charAt(place) >= 'a' && text.charAt(place) <= 'z') {
            place++;
        }
        return text.substring(from, place);
    }

    private void expect(char c) {
        if (ended() || next() != c) {
            throw new Fault(1, place);
        }
        place++;
    }

    private void readFields(Field into, int depth) {
        while (!ended() && next() != ']') {
            readField(into, depth);
        }
    }

    private void readField(Field into, int depth) {
        Field field = new Field();
        field.holder = into;
        next();
        int from = place;
        field.name = word();
        if (field.name.isEmpty() || Set.of("num", "word", "one", "opt", "many").contains(field.name)) {
            throw new Fault(1, from);
        }
        if (field.name.length() > 8) {
            throw new Fault(1, from + 8);
        }
        for (Field other : into.parts) {
            if (other.name.equals(field.name)) {
                throw new Fault(2, from);
            }
        }
        into.parts.add(field);
        if (!ended() && next() == '[') {
            if (depth == 4) {
                throw new Fault(3, place);
            }
            place++;
            field.kind = "[";
            readFields(field, depth + 1);
            if (ended()) {
                throw new Fault(1, place);
            }
            if (field.parts.isEmpty()) {
                throw new Fault(3, place);
            }
            expect(']');
        } else {
            int at = place;
            field.kind = word();
            if (!field.kind.equals("num") && !field.kind.equals("word")) {
                throw new Fault(1, at);
            }
            if (newLeaves.size() == 12) {
                throw new Fault(3, at);
            }
            field.leaf = newLeaves.size();
            newLeaves.add(field);
        }
        next();
        int at = place;
        field.mark = word();
        if (!Set.of("one", "opt", "many").contains(field.mark)) {
            throw new Fault(1, at);
        }
        expect(';');
    }

    private void readEntries(Node into, boolean inside) {
        while (true) {
            if (ended()) {
                if (inside) {
                    throw new Fault(1, place);
                }
                break;
            }
            if (next() == ']' && inside) {
                break;
            }
            readEntry(into);
        }
        for (Field part : into.field.parts) {
            if (part.mark.equals("one") && into.of(part).isEmpty()) {
                throw new Fault(4, place);
            }
        }
    }

    private void readEntry(Node into) {
        next();
        int from = place;
        String name = word();
        if (name.isEmpty()) {
            throw new Fault(1, from);
        }
        Field field = null;
        for (Field part : into.field.parts) {
            if (part.name.equals(name)) {
                field = part;
            }
        }
        if (field == null) {
            throw new Fault(2, from);
        }
        if (!field.mark.equals("many") && !into.of(field).isEmpty()) {
            throw new Fault(3, from);
        }
        expect(':');
        char c = ended() ? '\0' : next();
        String kind = c == '[' ? "[" : c >= 'a' && c <= 'z' ? "word" : c == '-' || c >= '0' && c <= '9' ? "num" : "";
        if (kind.isEmpty()) {
            throw new Fault(1, place);
        }
        if (!kind.equals(field.kind)) {
            throw new Fault(5, place);
        }
        Node node = new Node();
        node.field = field;
        into.parts.add(node);
        if (kind.equals("[")) {
            place++;
            readEntries(node, true);
            expect(']');
        } else if (kind.equals("num")) {
            readNumber(node);
        } else {
            int at = place;
            node.written = word();
            if (node.written.length() > 8) {
                throw new Fault(1, at + 8);
            }
            for (char letter : node.written.toCharArray()) {
                node.value = node.value * 27 + (letter - 'a' + 1);
            }
        }
        expect(';');
    }

    private void readNumber(Node node) {
        int from = place;
        if (text.charAt(place) == '-') {
            place++;
        }
        int digits = place;
        while (place < text.length() && Character.isDigit(text.charAt(place)) && text.charAt(place) < 128) {
            place++;
        }
        if (place == digits) {
            throw new Fault(1, place);
        }
        if (place - digits > 6) {
            throw new Fault(1, digits + 6);
        }
        node.value = Long.parseLong(text.substring(from, place));
        node.written = Long.toString(node.value);
    }

    // ---- TABLES

    List<Row> table(int c) {
        List<Row> rows = new ArrayList<>();
        List<Field> road = leaves.get(c).road();
        for (int i = 0; i < papers.size(); i++) {
            List<Row> mine = new ArrayList<>();
            walk(papers.get(i), road, 0, new ArrayList<>(), mine);
            for (int k = 0; k < mine.size(); k++) {
                mine.get(k).paper = i;
                mine.get(k).level = k == 0 ? 0 : level(road, mine.get(k - 1).turns, mine.get(k).turns);
            }
            rows.addAll(mine);
        }
        return rows;
    }

    private void walk(Node at, List<Field> road, int step, List<Integer> turns, List<Row> out) {
        if (step == road.size()) {
            out.add(row(road, turns, true, at.value));
            return;
        }
        List<Node> found = at.of(road.get(step));
        if (found.isEmpty()) {
            out.add(row(road, turns, false, 0));
        }
        for (int turn = 0; turn < found.size(); turn++) {
            List<Integer> longer = new ArrayList<>(turns);
            longer.add(turn);
            walk(found.get(turn), road, step + 1, longer, out);
        }
    }

    private Row row(List<Field> road, List<Integer> turns, boolean has, long value) {
        Row row = new Row();
        row.turns = turns;
        row.has = has;
        row.value = value;
        for (int step = 0; step < turns.size(); step++) {
            row.told += road.get(step).isCounted() ? 1 : 0;
        }
        return row;
    }

    private int level(List<Field> road, List<Integer> ahead, List<Integer> here) {
        int manys = 0;
        for (int step = 0; step < road.size(); step++) {
            manys += road.get(step).mark.equals("many") ? 1 : 0;
            if (!ahead.get(step).equals(here.get(step))) {
                return manys;
            }
        }
        throw new IllegalStateException("two ROWS of one road");
    }

    int deep(int c) {
        return (int) leaves.get(c).road().stream().filter(Field::isCounted).count();
    }

    int again(int c) {
        return (int) leaves.get(c).road().stream().filter(f -> f.mark.equals("many")).count();
    }

    int size(int c) {
        List<Row> rows = table(c);
        Set<Long> unlike = new HashSet<>();
        int runs = 0;
        int values = 0;
        for (int k = 0; k < rows.size(); k++) {
            Row row = rows.get(k);
            boolean levelRun = k == 0 || rows.get(k - 1).level != row.level;
            boolean toldRun = k == 0 || rows.get(k - 1).told != row.told;
            runs += again(c) != 0 && levelRun ? 1 : 0;
            runs += deep(c) != 0 && toldRun ? 1 : 0;
            if (row.has) {
                unlike.add(row.value);
                values++;
            }
        }
        int bits = 0;
        while (Math.pow(2, bits) < unlike.size()) {
            bits++;
        }
        return 2 * runs + 8 * unlike.size() + (int) Math.ceil(bits * values / 8.0);
    }

    // ---- TEXTS and asks

    String textOf(int i, int bits) {
        StringBuilder out = new StringBuilder();
        write(papers.get(i), bits, out);
        return out.toString();
    }

    private void write(Node group, int bits, StringBuilder out) {
        for (Field part : group.field.parts) {
            if (isWanted(part, bits)) {
                for (Node node : group.of(part)) {
                    out.append(part.name).append(':');
                    if (part.leaf >= 0) {
                        out.append(node.written);
                    } else {
                        out.append('[');
                        write(node, bits, out);
                        out.append(']');
                    }
                    out.append(';');
                }
            }
        }
    }

    private boolean isWanted(Field field, int bits) {
        if (field.leaf >= 0) {
            return (bits & 1 << field.leaf) != 0;
        }
        for (Field part : field.parts) {
            if (isWanted(part, bits)) {
                return true;
            }
        }
        return false;
    }

    int both(int a, long v, int b, long w) {
        Field farthest = null;
        for (Field field : leaves.get(a).road()) {
            if (field.mark.equals("many") && leaves.get(b).road().contains(field)) {
                farthest = field;
            }
        }
        List<Node> times = new ArrayList<>();
        for (Node paper : papers) {
            if (farthest == null) {
                times.add(paper);
            } else {
                collect(paper, farthest, times);
            }
        }
        int found = 0;
        for (Node time : times) {
            if (holds(time, leaves.get(a), v) && holds(time, leaves.get(b), w)) {
                found++;
            }
        }
        return found;
    }

    private void collect(Node node, Field wanted, List<Node> out) {
        if (node.field == wanted) {
            out.add(node);
        }
        for (Node part : node.parts) {
            collect(part, wanted, out);
        }
    }

    private boolean holds(Node node, Field leaf, long value) {
        List<Node> found = new ArrayList<>();
        collect(node, leaf, found);
        for (Node each : found) {
            if (each.value == value) {
                return true;
            }
        }
        return false;
    }
}
