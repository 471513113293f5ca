import java.io.IOException;
import java.lang.reflect.Method;
import java.lang.reflect.Modifier;
import java.nio.file.Files;
import java.nio.file.Path;
import java.util.HashMap;
import java.util.List;
import java.util.Map;
import java.util.regex.Matcher;
import java.util.regex.Pattern;

/** What README.md tells of the use of the class: its example is played as it stands there, all calls are named. */
public final class ReadmeTest {
    private static final Pattern BOX = Pattern.compile("String box = \"([^\"]*)\";.*");
    private static final Pattern CALL = Pattern.compile("x\\.(\\w+)\\(([0-9, ]*)\\); +// (-?\\d+)(?::.*)?");
    private static final Check check = new Check();
    private static final Map<String, Method> FACE = new HashMap<>();

    public static void main(String[] args) throws IOException, ReflectiveOperationException {
        for (Method m : BoneRods.class.getDeclaredMethods()) {
            if (Modifier.isPublic(m.getModifiers())) {
                FACE.put(m.getName(), m);
            }
        }
        String readme = Files.readString(Path.of("README.md"));
        int start = readme.indexOf("```java\n") + "```java\n".length();
        example(readme.substring(start, readme.indexOf("```", start)).lines().toList());
        for (String name : FACE.keySet()) {
            check.that("README.md names " + name, readme.matches("(?s).*\n\\| (\\w+ )*" + name + " (\\w+ )*\\|.*"));
        }
        check.end("ReadmeTest");
    }

    private static void example(List<String> lines) throws ReflectiveOperationException {
        BoneRods x = new BoneRods();
        String box = "";
        int played = 0;
        for (String line : lines) {
            Matcher told = BOX.matcher(line);
            Matcher call = CALL.matcher(line);
            if (told.matches()) {
                box = told.group(1);
            } else if (line.equals("    x.put(0, i, box.charAt(i));")) {
                for (int i = 0; i < box.length(); i++) {
                    x.put(0, i, box.charAt(i));
                }
            } else if (call.matches()) {
                play(x, call);
                played++;
            } else {
                check.that("an answer stands behind: " + line, !line.startsWith("x."));
            }
        }
        check.that("some calls are shown", played > 10);
    }

    private static void play(BoneRods x, Matcher call) throws ReflectiveOperationException {
        String[] numbers = call.group(2).isEmpty() ? new String[0] : call.group(2).split(", ");
        Object[] values = new Object[numbers.length];
        for (int a = 0; a < values.length; a++) {
            values[a] = Integer.valueOf(numbers[a]);
        }
        long got = ((Number) FACE.get(call.group(1)).invoke(x, values)).longValue();
        check.due("README.md: " + call.group(), got, Long.parseLong(call.group(3)));
    }
}
