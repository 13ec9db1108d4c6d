import java.lang.reflect.Constructor;
import java.lang.reflect.Field;
import java.lang.reflect.Method;
import java.lang.reflect.Modifier;
import java.nio.file.Files;
import java.nio.file.Path;
import java.util.List;
import java.util.Set;
import java.util.TreeSet;
import java.util.regex.Matcher;
import java.util.regex.Pattern;

/** "The public face" of the document against the class: each line as it stands there, and no others (rule 1 of LANGUAGE.md). */
public final class FaceTest {
    private static final Check CHECK = new Check("FaceTest");
    private static final Class<?> TYPE = TreeTables.class;
    private static final List<String> FACE = List.of(
        "public static final int NONE = -1",
        "public TreeTables()",
        "public int feed(int a, int b, int c, int d, int e)",
        "public boolean end(int n)",
        "public int shape()",
        "public int paper()",
        "public int fault(int what)",
        "public int drop(int i)",
        "public int leaf(int c, int what)",
        "public int row(int c, int k, int what)",
        "public long value(int c, int k)",
        "public int text(int i, int bits)",
        "public int at(int k)",
        "public int among(int c, long least, long greatest)",
        "public int papers(int c, long least, long greatest)",
        "public long sum(int c, int i)",
        "public int both(int a, long v, int b, long w)",
        "public int rows(int c, int level, int told)");

    public static void main(String[] args) throws Exception {
        sameAsTheDocument();
        sameDeclarations();
        sameWords();
        nothingElseIsOpen();
        classesInside();
        privateNames();
        CHECK.finish();
    }

    /** The document itself need not be at hand where the tests run; where it is, it must say the same. */
    private static void sameAsTheDocument() throws Exception {
        CHECK.sentence("The public face: (as this test has it)");
        CHECK.due("lines", FACE.size(), 18);
        Path file = Path.of("../shared/DOC.md");
        if (Files.exists(file)) {
            String document = Files.readString(file);
            int from = document.indexOf("```java", document.indexOf("## The public face"));
            String block = document.substring(from, document.indexOf("```", from + 3));
            Set<String> found = new TreeSet<>();
            Matcher line = Pattern.compile("(?m)^ {4}(public .*);$").matcher(block);
            while (line.find()) {
                found.add(line.group(1));
            }
            CHECK.due("the document's face", String.join("\n", found), String.join("\n", new TreeSet<>(FACE)));
        }
    }

    private static void sameDeclarations() throws Exception {
        CHECK.sentence("The public face: as they stand there and no others");
        Set<String> due = new TreeSet<>();
        for (String line : FACE) {
            due.add(line.replaceAll(" \\w+(?=[,)])", ""));
        }
        Set<String> found = new TreeSet<>();
        for (Field field : TYPE.getFields()) {
            found.add(Modifier.toString(field.getModifiers()) + " " + field.getType() + " " + field.getName() + " = " + field.get(null));
        }
        for (Constructor<?> constructor : TYPE.getConstructors()) {
            found.add("public " + constructor.getName() + typesOf(constructor.getParameterTypes()));
        }
        for (Method method : TYPE.getDeclaredMethods()) {
            if (Modifier.isPublic(method.getModifiers())) {
                String head = Modifier.toString(method.getModifiers()) + " " + method.getReturnType() + " " + method.getName();
                found.add(head + typesOf(method.getParameterTypes()));
            }
        }
        CHECK.due("the class's face", String.join("\n", found), String.join("\n", due));
        CHECK.due("the class", Modifier.toString(TYPE.getModifiers()) + " class " + TYPE.getName(), "public final class TreeTables");
        CHECK.due("it stands on no other class", TYPE.getSuperclass() == Object.class && TYPE.getInterfaces().length == 0, true);
    }

    private static String typesOf(Class<?>[] types) {
        StringBuilder out = new StringBuilder();
        for (Class<?> type : types) {
            out.append(out.length() == 0 ? "" : ", ").append(type.getName());
        }
        return "(" + out + ")";
    }

    private static void sameWords() throws Exception {
        CHECK.sentence("The public face: (the parameters' names, too)");
        String source = Files.readString(Path.of("src/main/java/TreeTables.java"));
        for (String line : FACE) {
            CHECK.due(line, source.contains("    " + line + (line.contains("(") ? " {" : ";")), true);
        }
    }

    private static void nothingElseIsOpen() {
        CHECK.sentence("rule 1: no other public, protected or package-visible member");
        for (Method method : TYPE.getDeclaredMethods()) {
            int modifiers = method.getModifiers();
            CHECK.due(method.getName(), Modifier.isPublic(modifiers) || Modifier.isPrivate(modifiers), true);
        }
        for (Field field : TYPE.getDeclaredFields()) {
            CHECK.due(field.getName() + " is private", Modifier.isPrivate(field.getModifiers()), !field.getName().equals("NONE"));
        }
        CHECK.due("one constructor", TYPE.getDeclaredConstructors().length, 1);
    }

    private static void classesInside() {
        CHECK.sentence("rule 1: the classes inside it, which are private or package-visible and static");
        for (Class<?> inside : TYPE.getDeclaredClasses()) {
            int modifiers = inside.getModifiers();
            CHECK.due(inside.getName() + " is static", Modifier.isStatic(modifiers), true);
            CHECK.due(inside.getName() + " is open", Modifier.isPublic(modifiers) || Modifier.isProtected(modifiers), false);
        }
    }

    private static void privateNames() {
        CHECK.sentence("rule 1: No private method bears the name of a public one");
        Set<String> open = new TreeSet<>();
        for (Method method : TYPE.getDeclaredMethods()) {
            if (Modifier.isPublic(method.getModifiers())) {
                open.add(method.getName());
            }
        }
        dueOtherNames(TYPE, open);
        for (Class<?> inside : TYPE.getDeclaredClasses()) {
            dueOtherNames(inside, open);
        }
    }

    private static void dueOtherNames(Class<?> type, Set<String> open) {
        for (Method method : type.getDeclaredMethods()) {
            if (!Modifier.isPublic(method.getModifiers())) {
                CHECK.due(type.getName() + "." + method.getName() + " bears a public name", open.contains(method.getName()), false);
            }
        }
    }
}
