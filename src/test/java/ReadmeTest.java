import java.lang.reflect.Method;
import java.lang.reflect.Modifier;
import java.nio.file.Files;
import java.nio.file.Path;
import java.util.regex.Matcher;
import java.util.regex.Pattern;

/** README.md's examples answer as they say, and it tells of each call. */
public final class ReadmeTest {
    private static final Check CHECK = new Check("ReadmeTest");
    private static final Pattern CALL = Pattern.compile("x\\.(\\w+)\\((.*)\\); *// (-?\\d+)(:.*)?");
    private static final Pattern LOAD = Pattern.compile("load\\(x, \"(.*)\"\\);");

    public static void main(String[] args) throws Exception {
        String readme = Files.readString(Path.of("README.md"));
        examples(readme);
        eachCallIsTold(readme);
        eachTestIsTold(readme);
        CHECK.finish();
    }

    private static void examples(String readme) throws Exception {
        CHECK.sentence("README.md says how to use the class");
        int found = 0;
        Matcher block = Pattern.compile("(?s)```java\n(.*?)```").matcher(readme);
        while (block.find()) {
            run(block.group(1));
            found++;
        }
        CHECK.due("examples", found, 2);
    }

    /** Each line is a new object, a text for the tape, or a call with the answer that is due behind it. */
    private static void run(String block) throws Exception {
        TreeTables x = null;
        for (String line : block.split("\n")) {
            Matcher call = CALL.matcher(line);
            Matcher load = LOAD.matcher(line);
            if (line.equals("TreeTables x = new TreeTables();")) {
                x = new TreeTables();
            } else if (load.matches()) {
                Check.load(x, load.group(1));
            } else if (call.matches()) {
                CHECK.due(line, answer(x, call.group(1), call.group(2)), Long.parseLong(call.group(3)));
            } else {
                CHECK.due("a line that can be run", line, "");
            }
        }
    }

    private static long answer(TreeTables x, String name, String list) throws Exception {
        String[] words = list.isEmpty() ? new String[0] : list.split(", ");
        for (Method method : TreeTables.class.getMethods()) {
            if (method.getName().equals(name) && method.getParameterCount() == words.length) {
                Object[] values = new Object[words.length];
                for (int k = 0; k < words.length; k++) {
                    values[k] = number(words[k], method.getParameterTypes()[k]);
                }
                return ((Number) method.invoke(x, values)).longValue();
            }
        }
        throw new IllegalStateException("no such call: " + name);
    }

    private static Object number(String word, Class<?> type) {
        long number = word.equals("TreeTables.NONE") ? TreeTables.NONE : Long.decode(word);
        return type == int.class ? (Object) (int) number : (Object) number;
    }

    private static void eachCallIsTold(String readme) {
        for (Method method : TreeTables.class.getDeclaredMethods()) {
            if (Modifier.isPublic(method.getModifiers())) {
                CHECK.due(method.getName() + " has a row", readme.contains("\n| `" + method.getName() + "("), true);
            }
        }
    }

    private static void eachTestIsTold(String readme) throws Exception {
        CHECK.sentence("README.md says how to run its tests");
        CHECK.due(".ci/run is told", readme.contains("```\n.ci/run\n```"), true);
        try (var files = Files.newDirectoryStream(Path.of("src/test/java"), "*Test.java")) {
            for (Path file : files) {
                String name = file.getFileName().toString().replace(".java", "");
                CHECK.due(name + " is told", readme.contains("`" + name + "`"), true);
            }
        }
    }
}
