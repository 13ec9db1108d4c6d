import java.lang.reflect.Method;
import java.lang.reflect.Modifier;
import java.nio.file.Files;
import java.nio.file.Path;
import java.util.Set;
import java.util.TreeSet;
import java.util.regex.Matcher;
import java.util.regex.Pattern;

/** Rules of LANGUAGE.md that can be seen in the source and in the compiled classes. */
public final class LanguageTest {
    private static final Check CHECK = new Check("LanguageTest");

    public static void main(String[] args) throws Exception {
        String source = Files.readString(Path.of("src/main/java/TreeTables.java"));
        String code = source.replaceAll("(?s)/\\*.*?\\*/", "").replaceAll("//[^\n]*", "");
        rulesOfTheSource(code);
        shortMethods(code);
        new CallGraph("src/main/java/TreeTables.java").check(CHECK);
        face();
        CHECK.finish();
    }

    private static void absent(String code, String pattern) {
        Matcher found = Pattern.compile(pattern).matcher(code);
        CHECK.due("'" + pattern + "' in the source", found.find(), false);
    }

    private static void rulesOfTheSource(String code) {
        for (String word : new String[] {"throw", "throws", "try", "catch", "finally", "synchronized", "assert", "package", "yield", "var",
            "equals", "hashCode", "toString", "Object", "Exception", "protected"}) {
            absent(code, "\\b" + word + "\\b");
        }
        absent(code, "->");
        absent(code, "::");
        absent(code, "\\w+Exact\\b");
        absent(code, "\"");
        absent(code, "static\\s*\\{");
        absent(code, "static (?!final)(?!class)\\w+(\\[\\])? \\w+\\s*[=;]");
        absent(code, "import (?!java\\.util\\.Arrays;)");
        CHECK.due("the classes inside are few", code.split("\\bclass\\b").length - 1 <= 12, true);
    }

    private static void shortMethods(String code) {
        int start = -1;
        String[] lines = code.split("\n");
        for (int k = 0; k < lines.length; k++) {
            if (lines[k].matches(" {4}( {4})?\\S.*\\) \\{")) {
                start = k;
            }
            if (lines[k].matches(" {4}( {4})?\\}") && start >= 0) {
                CHECK.due("the method at line " + (start + 1) + " is short", k - start <= 60, true);
                start = -1;
            }
        }
    }

    private static void face() {
        Class<?> type = TreeTables.class;
        CHECK.due("public and final", Modifier.isPublic(type.getModifiers()) && Modifier.isFinal(type.getModifiers()), true);
        Set<String> due = Set.of("feed", "end", "shape", "paper", "fault", "drop", "leaf", "row", "value", "text", "at", "among", "papers",
            "sum", "both", "rows");
        Set<String> open = new TreeSet<>();
        for (Method method : type.getDeclaredMethods()) {
            if (Modifier.isPublic(method.getModifiers())) {
                open.add(method.getName());
            } else {
                CHECK.due(method.getName() + " is private", Modifier.isPrivate(method.getModifiers()), true);
                CHECK.due(method.getName() + " has a name of its own", due.contains(method.getName()), false);
            }
        }
        CHECK.due("the public methods", open.toString(), new TreeSet<>(due).toString());
        for (var field : type.getDeclaredFields()) {
            boolean isNone = field.getName().equals("NONE");
            CHECK.due(field.getName() + " is public", Modifier.isPublic(field.getModifiers()), isNone);
            CHECK.due(field.getName() + " is private", Modifier.isPrivate(field.getModifiers()), !isNone);
        }
        for (Class<?> inside : type.getDeclaredClasses()) {
            int modifiers = inside.getModifiers();
            CHECK.due(inside.getName() + " is static", Modifier.isStatic(modifiers), true);
            CHECK.due(inside.getName() + " is public", Modifier.isPublic(modifiers), false);
            CHECK.due(inside.getName() + " has few fields", inside.getDeclaredFields().length <= 20, true);
            for (Method method : inside.getDeclaredMethods()) {
                CHECK.due(method.getName() + " has few parameters", method.getParameterCount() <= 7, true);
                boolean hidden = Modifier.isPrivate(method.getModifiers());
                CHECK.due(method.getName() + " has a name of its own", hidden && due.contains(method.getName()), false);
            }
        }
        CHECK.due("one constructor", type.getDeclaredConstructors().length, 1);
    }
}
