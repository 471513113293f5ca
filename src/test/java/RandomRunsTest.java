import java.lang.reflect.Method;
import java.util.ArrayList;
import java.util.Comparator;
import java.util.List;
import java.util.Random;

/** Runs of up to 512 calls by a fixed seed, each answer set beside the Model's. */
public final class RandomRunsTest {
    private static final int RUNS = 400;
    private static final int[] EDGES = {Integer.MIN_VALUE, -1, 0, 1, 9, 10, 40, 41, 60, 61, Integer.MAX_VALUE};
    private static final Check check = new Check();

    private final Random random;
    private final BoneRods x = new BoneRods();
    private final Model model = new Model();
    private final List<String> before = new ArrayList<>();
    private int calls = 0;

    private RandomRunsTest(long seed) {
        random = new Random(seed);
    }

    public static void main(String[] args) throws ReflectiveOperationException {
        for (int run = 0; run < RUNS && check.wrongSoFar() == 0; run++) {
            new RandomRunsTest(run).go();
        }
        check.end("RandomRunsTest");
    }

    private static List<Method> face() {
        List<Method> all = new ArrayList<>(List.of(BoneRods.class.getDeclaredMethods()));
        all.removeIf(m -> !java.lang.reflect.Modifier.isPublic(m.getModifiers()));
        all.sort(Comparator.comparing(Method::getName));
        return all;
    }

    private void go() throws ReflectiveOperationException {
        List<Method> face = face();
        while (calls < 480 && check.wrongSoFar() == 0) {
            if (random.nextInt(60) == 0 || calls == 20) {
                tellBox();
            } else if (random.nextInt(12) == 0) {
                tellPairs();
            } else {
                Method m = face.get(random.nextInt(face.size()));
                call(m.getName(), arguments(m.getName(), m.getParameterCount()));
            }
        }
    }

    private void call(String name, int... args) throws ReflectiveOperationException {
        calls++;
        StringBuilder told = new StringBuilder(name).append('(');
        Class<?>[] types = new Class<?>[args.length];
        Object[] values = new Object[args.length];
        for (int i = 0; i < args.length; i++) {
            types[i] = int.class;
            values[i] = args[i];
            told.append(i == 0 ? "" : ", ").append(args[i]);
        }
        before.add(told.append(')').toString());
        long got = ((Number) BoneRods.class.getMethod(name, types).invoke(x, values)).longValue();
        long want = ((Number) Model.class.getDeclaredMethod(name, types).invoke(model, values)).longValue();
        check.due(told.toString(), got, want);
        check.due(told + ": asked()", x.asked(), model.asked());
        check.due(told + ": upper()", x.upper(), model.upper());
        check.due(told + ": lower()", x.lower(), model.lower());
        check.due(told + ": finding()", x.finding(), model.finding());
        if (calls % 8 == 0) {
            check.due(told + ": digest()", x.digest(), model.digest());
        }
        if (check.wrongSoFar() > 0) {
            System.out.println("by " + before);
        }
    }

    private int[] arguments(String name, int n) {
        int[] args = new int[n];
        for (int a = 0; a < n; a++) {
            args[a] = random.nextInt(30) == 0 ? EDGES[random.nextInt(EDGES.length)] : ordinary(name, a);
        }
        return args;
    }

    /** Mostly as the document wants it, sometimes just beside it. */
    private int ordinary(String name, int a) {
        switch (name + a) {
            case "row1": case "lay1": case "at1": return random.nextInt(6);
            case "lay2": return random.nextInt(4) == 0 ? random.nextInt() : random.nextInt(40);
            case "copy1": case "copy3": case "copy4": return random.nextInt(4);
            case "text0": case "put0": case "fault0": case "box0": return random.nextInt(4);
            case "text1": case "put1": return random.nextInt(14);
            case "put2": return "rwtsbd0123456789 x".charAt(random.nextInt(18));
            case "mark1": case "rod1": return random.nextInt(6);
            case "undo0": return random.nextInt(8) == 0 ? random.nextInt(4) : x.count(2) - random.nextInt(4);
            case "keep0": case "on0": return random.nextInt(3);
            case "makes0": return wantedNumber();
            case "makes1": case "most1": case "near1": case "duel1": return 1 + random.nextInt(9);
            case "makes2": case "most2": return random.nextInt(6);
            case "most0": return random.nextInt(6);
            case "near0": return random.nextInt(random.nextBoolean() ? 10000 : 1200);
            case "odds1": case "mid1": return random.nextInt(13);
            case "lots0": return random.nextInt(8) == 0 ? 1 + random.nextInt(20) : 1 + random.nextInt(4);
            case "lots1": return random.nextInt(Integer.MAX_VALUE);
            case "reads0": case "carries0": case "odds0": case "mid0": case "shows1": return 1 + random.nextInt(9);
            case "digits1": case "kinds1": case "test1": case "other0": return random.nextInt(4) == 0 ? 1 : 0;
            case "count0": return random.nextInt(11);
            default: return random.nextInt(7);
        }
    }

    /** Small ones are made by some frame more often. */
    private int wantedNumber() {
        int[] tops = {10, 100, 1000, 100000, 100000000};
        return random.nextInt(tops[random.nextInt(tops.length)]);
    }

    private void tellBox() throws ReflectiveOperationException {
        StringBuilder signs = new StringBuilder();
        int rods = 2 + random.nextInt(6);
        for (int i = 0; i < rods; i++) {
            signs.append(" ".repeat(random.nextInt(3) / 2));
            signs.append("rwtsbd".charAt(random.nextInt(6))).append(random.nextInt(10)).append(random.nextInt(10));
        }
        if (random.nextInt(6) == 0) {
            signs.setCharAt(random.nextInt(signs.length()), "r0 x".charAt(random.nextInt(4)));
        }
        call("text", 0, signs.length());
        for (int i = 0; i < signs.length(); i++) {
            call("put", 0, i, signs.charAt(i));
        }
        call("fault", 0);
        call("box", 0);
        for (int i = random.nextInt(5); i > 0; i--) {
            call("laid", random.nextInt(rods));
        }
    }

    /** What a rod, or the frame, might have shown, sometimes with one number amiss. */
    private void tellPairs() throws ReflectiveOperationException {
        int pairs = random.nextInt(4);
        call("row", 0, 2 * pairs);
        boolean ofFrame = random.nextBoolean();
        int i = random.nextInt(7);
        for (int p = 0; p < pairs; p++) {
            int n = 1 + random.nextInt(9);
            int seen = Math.max(0, ofFrame ? x.reads(n) : x.shows(i, n));
            model.reads(n);
            if (!ofFrame) {
                x.reads(n);
            }
            if (random.nextInt(5) == 0) {
                seen = random.nextInt(82);
            } else if (ofFrame && random.nextInt(3) > 0) {
                seen += n * new int[] {1, 10, 100, -1, -10}[random.nextInt(5)];
            }
            call("lay", 0, 2 * p, n);
            call("lay", 0, 2 * p + 1, seen);
        }
        call(ofFrame ? "other" : new String[] {"digits", "kinds", "test"}[random.nextInt(3)], ofFrame
                ? new int[] {0} : new int[] {i, 0});
    }
}
