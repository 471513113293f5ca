import java.io.IOException;
import java.lang.reflect.Constructor;
import java.lang.reflect.Field;
import java.lang.reflect.Method;
import java.lang.reflect.Modifier;
import java.nio.file.Files;
import java.nio.file.Path;
import java.util.List;
import java.util.Set;
import java.util.TreeSet;

/** The public face, and those rules of LANGUAGE.md that can be seen from outside. */
public final class FaceTest {
    private static final Check check = new Check();
    private static final Path SOURCE = Path.of("src/main/java/BoneRods.java");
    private static final Set<String> FACE = Set.of("row2", "lay3", "at2", "tear1", "copy5", "mean1", "text2", "put3",
            "fault1", "box1", "rod2", "mark2", "shows2", "laid1", "lift0", "change2", "over1", "undo1", "keep1", "on1",
            "reads1", "wrong0", "carries1", "makes3", "most3", "near2", "digits2", "kinds2", "test2", "other1", "duel2",
            "odds2", "mid2", "lots2", "asked0", "upper0", "lower0", "count1", "finding0", "findings1", "digest0");
    private static final Set<String> LONGS = Set.of("upper", "lower", "digest");

    public static void main(String[] args) throws IOException {
        theClass();
        constants();
        methods();
        classesInside();
        words();
        methodSizes();
        check.end("FaceTest");
    }

    private static void theClass() {
        int modifiers = BoneRods.class.getModifiers();
        check.that("public", Modifier.isPublic(modifiers));
        check.that("final", Modifier.isFinal(modifiers));
        Constructor<?>[] all = BoneRods.class.getDeclaredConstructors();
        check.due("constructors", all.length, 1);
        check.that("public BoneRods()", Modifier.isPublic(all[0].getModifiers()) && all[0].getParameterCount() == 0);
    }

    private static void constants() {
        Set<String> names = new TreeSet<>();
        for (Field f : BoneRods.class.getDeclaredFields()) {
            if (Modifier.isPrivate(f.getModifiers())) {
                check.that("a static field is final: " + f, !Modifier.isStatic(f.getModifiers())
                        || Modifier.isFinal(f.getModifiers()));
                continue;
            }
            names.add(f.getName());
            check.that("a public constant of int: " + f, f.toString().startsWith("public static final int "));
        }
        check.that("constants " + names, names.equals(Set.of("BAD", "FULL", "FINDING", "STATE", "SPENT", "NONE")));
        check.due("BAD", BoneRods.BAD, -1);
        check.due("FULL", BoneRods.FULL, -2);
        check.due("FINDING", BoneRods.FINDING, -3);
        check.due("STATE", BoneRods.STATE, -4);
        check.due("SPENT", BoneRods.SPENT, -6);
        check.due("NONE", BoneRods.NONE, -9);
    }

    private static void methods() {
        Set<String> names = new TreeSet<>();
        for (Method m : BoneRods.class.getDeclaredMethods()) {
            check.that("parameters of " + m, m.getParameterCount() <= 7);
            if (Modifier.isPrivate(m.getModifiers())) {
                check.that("a name of its own: " + m, !isOfFace(m.getName()));
                continue;
            }
            names.add(m.getName() + m.getParameterCount());
            check.that("public, not static: " + m, Modifier.isPublic(m.getModifiers())
                    && !Modifier.isStatic(m.getModifiers()));
            check.that("answer of " + m, m.getReturnType() == (LONGS.contains(m.getName()) ? long.class : int.class));
            for (Class<?> type : m.getParameterTypes()) {
                check.that("ints for " + m, type == int.class);
            }
        }
        check.that("methods " + names, names.equals(FACE));
    }

    private static boolean isOfFace(String name) {
        return FACE.stream().anyMatch(f -> f.substring(0, f.length() - 1).equals(name));
    }

    private static void classesInside() {
        Class<?>[] all = BoneRods.class.getDeclaredClasses();
        check.that("some twelve classes: " + all.length, all.length <= 11);
        for (Class<?> inside : all) {
            check.that("static: " + inside, Modifier.isStatic(inside.getModifiers()));
            check.that("not public: " + inside, !Modifier.isPublic(inside.getModifiers()));
            check.that("some twenty fields: " + inside, inside.getDeclaredFields().length <= 20);
            for (Method m : inside.getDeclaredMethods()) {
                check.that("a name of its own: " + m, !isOfFace(m.getName()));
                check.that("parameters of " + m, m.getParameterCount() <= 7);
            }
        }
    }

    private static void words() throws IOException {
        String code = Files.readString(SOURCE).replaceAll("(?s)/\\*.*?\\*/", " ").replaceAll("//[^\n]*", " ");
        for (String word : List.of("throw", "throws", "try", "catch", "synchronized", "assert", "import", "package",
                "protected", "double", "float", "Object", "equals", "hashCode", "toString", "volatile", "native")) {
            check.that("no '" + word + "'", !code.matches("(?s).*\\b" + word + "\\b.*"));
        }
        for (String sign : List.of("->", "::", "@", "Exact", "System.currentTime", "System.nano", "while (true)")) {
            check.that("no '" + sign + "'", !code.contains(sign));
        }
        check.that("signs 1 to 127", code.chars().allMatch(c -> c >= 1 && c <= 127));
    }

    /** A method's body runs from its brace to the next line that closes at the same depth. */
    private static void methodSizes() throws IOException {
        List<String> lines = Files.readAllLines(SOURCE);
        for (int start = 0; start < lines.size(); start++) {
            String line = lines.get(start);
            if (!line.matches("(    ){1,2}[^ ].*\\) \\{")) {
                continue;
            }
            String close = line.replaceAll("[^ ].*", "") + "}";
            int end = start;
            while (end + 1 < lines.size() && !lines.get(end).equals(close)) {
                end++;
            }
            check.that("at most sixty lines: " + line.trim(), end - start < 60);
        }
    }
}
