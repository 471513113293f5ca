import java.lang.reflect.Method;
import java.util.ArrayList;
import java.util.HashMap;
import java.util.List;
import java.util.Map;
import java.util.Set;
import java.util.TreeSet;
import java.util.regex.Matcher;
import java.util.regex.Pattern;

/**
 * Runs of calls on a new object, told line by line with the answers due:
 *
 *   lay(0, 1, 7) = 1 asked 0      a call, what it answers, what asked() tells then
 *   odds(1, 3) = 1 by 3/4         what upper() and lower() tell then
 *   at(9, 0) = BAD                a refusal (BAD, FULL, STATE, or a FINDING by its name), or NONE
 *   40 times over(0)              a call so often
 *   write 0 [r40 w73]             a TEXT's bytes
 *   box [r40 w73]                 the same, and box(0)
 *   fill 2: 1 8                   a ROW's ints
 *   row 2 is 1 8                  all that a ROW holds
 *
 * What is refused, or answered NONE, is shown to change nothing but finding() and findings(): the run is played
 * anew with and without it, and all that can be asked of both, back along the DEEDS and the kept BOXES, is compared.
 */
final class Script {
    private static final int CALLS_OF_AN_OBJECT = 512;
    private static final Pattern CALL = Pattern.compile(
            "(?:(\\d+) times )?(\\w+)\\(([^)]*)\\)(?: = (\\S+))?(?: asked (\\S+))?(?: by (\\S+)/(\\S+))?");
    private static final Pattern WRITE = Pattern.compile("(?:write (\\d)|box) \\[(.*)\\]");
    private static final Pattern FILL = Pattern.compile("fill (\\d):(.*)");
    private static final Pattern ROW = Pattern.compile("row (\\d) is(.*)");
    private static final List<String> FINDINGS = List.of("", "NOTHING", "BEYOND", "UNLIKE", "NOUGHT", "SIZE");
    private static final Map<String, Integer> WORDS = Map.of("BAD", -1, "FULL", -2, "STATE", -4, "NONE", -9,
            "MIN", Integer.MIN_VALUE, "MAX", Integer.MAX_VALUE);
    private static final Set<String> UNCHANGING = Set.of("BAD", "FULL", "STATE", "NONE");
    private static final Map<String, Method> FACE = new HashMap<>();

    static {
        for (Method m : BoneRods.class.getMethods()) {
            if (m.getDeclaringClass() == BoneRods.class) {
                FACE.put(m.getName(), m);
            }
        }
    }

    private record Call(String name, int[] args) {
        String told() {
            StringBuilder all = new StringBuilder(name).append('(');
            for (int a = 0; a < args.length; a++) {
                all.append(a == 0 ? "" : ", ").append(args[a]);
            }
            return all.append(')').toString();
        }
    }

    private final Check check;
    private final String title;
    private final List<Call> done = new ArrayList<>();
    private final BoneRods x = new BoneRods();

    private Script(Check check, String title) {
        this.check = check;
        this.title = title;
    }

    /** What stands in one test: the promises that have a sentence there. */
    static final class Book {
        private final Check check = new Check();
        private final Set<Integer> promises = new TreeSet<>();

        void edge(int promise, String sentence, String lines) {
            promises.add(promise);
            Script script = new Script(check, promise == 0 ? "Terms: " + sentence : promise + ": " + sentence);
            lines.lines().map(String::strip).filter(line -> !line.isEmpty()).forEach(script::line);
        }

        /** For what is more easily told in Java; the promise then stands here, too. */
        void due(int promise, String what, long got, long want) {
            promises.add(promise);
            check.due(promise + ": " + what, got, want);
        }

        void end(String name, int first, int last) {
            for (int promise = first; promise <= last; promise++) {
                check.that("promise " + promise + " has an edge here", promises.contains(promise));
            }
            check.end(name);
        }
    }

    private void line(String line) {
        Matcher write = WRITE.matcher(line);
        Matcher fill = FILL.matcher(line);
        Matcher row = ROW.matcher(line);
        Matcher call = CALL.matcher(line);
        if (line.startsWith("#")) {
            return;
        } else if (write.matches()) {
            write(write.group(1) == null ? 0 : number(write.group(1)), write.group(2), write.group(1) == null);
        } else if (fill.matches()) {
            fill(number(fill.group(1)), numbers(fill.group(2), " +"));
        } else if (row.matches()) {
            rowIs(number(row.group(1)), numbers(row.group(2), " +"));
        } else if (call.matches()) {
            asTold(call);
        } else {
            throw new IllegalArgumentException("no such line: " + line);
        }
    }

    private void write(int t, String signs, boolean asBox) {
        play(new Call("text", new int[] {t, signs.length()}));
        for (int i = 0; i < signs.length(); i++) {
            if (signs.charAt(i) != ' ') {
                play(new Call("put", new int[] {t, i, signs.charAt(i)}));
            }
        }
        if (asBox && play(new Call("box", new int[] {t})) < 2) {
            throw new IllegalArgumentException("no BOX: " + signs);
        }
    }

    private void fill(int r, int[] ints) {
        play(new Call("row", new int[] {r, ints.length}));
        for (int i = 0; i < ints.length; i++) {
            play(new Call("lay", new int[] {r, i, ints[i]}));
        }
    }

    /** On an object of its own, so that asked() and finding() stay as they are here. */
    private void rowIs(int r, int[] ints) {
        BoneRods other = replay(done);
        for (int i = 0; i < ints.length; i++) {
            check.due(title + ": at(" + r + ", " + i + ")", other.at(r, i), 1);
            check.due(title + ": place " + i + " of ROW " + r, other.asked(), ints[i]);
        }
        check.due(title + ": ROW " + r + " has no more", other.at(r, ints.length), BoneRods.FINDING);
        check.due(title + ": ROW " + r + " is there", other.finding(), 2);
    }

    private void asTold(Matcher told) {
        Call call = new Call(told.group(2), numbers(told.group(3), ","));
        int times = told.group(1) == null ? 1 : number(told.group(1));
        for (int time = 0; time < times; time++) {
            String what = title + ": " + call.told();
            List<Call> before = new ArrayList<>(done);
            long got = play(call);
            String due = told.group(4);
            if (due != null) {
                int finding = Math.max(0, FINDINGS.indexOf(due));
                check.due(what, got, finding > 0 ? BoneRods.FINDING : number(due));
                if (finding > 0 || UNCHANGING.contains(due)) {
                    changesNothing(what, before, call, finding);
                }
            }
            if (told.group(5) != null) {
                check.due(what + ": asked()", x.asked(), number(told.group(5)));
            }
            if (told.group(6) != null) {
                check.due(what + ": upper()", x.upper(), Long.parseLong(told.group(6)));
                check.due(what + ": lower()", x.lower(), Long.parseLong(told.group(7)));
            }
        }
    }

    private void changesNothing(String what, List<Call> before, Call call, int finding) {
        BoneRods without = replay(before);
        BoneRods with = replay(before);
        answer(with, call);
        check.due(what + ": finding()", with.finding(), finding == 0 ? without.finding() : finding);
        for (int f = 1; f <= 5; f++) {
            int more = f == finding ? 1 : 0;
            check.due(what + ": findings(" + f + ")", with.findings(f), without.findings(f) + more);
        }
        if (before.size() + probe(without).size() > CALLS_OF_AN_OBJECT) {
            throw new IllegalStateException("too many calls: " + what);
        }
        check.that(what + " changes nothing else", probe(with).equals(probe(replay(before))));
    }

    private static List<Long> probe(BoneRods x) {
        List<Long> seen = new ArrayList<>(List.of((long) x.asked(), x.upper(), x.lower(), x.digest()));
        wayBack(x, seen);
        for (int k = 0; k < 3; k++) {
            seen.add((long) x.on(k));
            wayBack(x, seen);
        }
        return seen;
    }

    private static void wayBack(BoneRods x, List<Long> seen) {
        for (int d = x.count(2); d >= 0; d--) {
            seen.add((long) x.undo(d));
            seen.add(x.digest());
        }
    }

    private long play(Call call) {
        if (done.size() >= CALLS_OF_AN_OBJECT) {
            throw new IllegalStateException("too many calls: " + title);
        }
        done.add(call);
        return answer(x, call);
    }

    private static BoneRods replay(List<Call> calls) {
        BoneRods other = new BoneRods();
        for (Call call : calls) {
            answer(other, call);
        }
        return other;
    }

    private static long answer(BoneRods x, Call call) {
        Object[] values = new Object[call.args().length];
        for (int a = 0; a < values.length; a++) {
            values[a] = call.args()[a];
        }
        try {
            return ((Number) FACE.get(call.name()).invoke(x, values)).longValue();
        } catch (ReflectiveOperationException e) {
            throw new IllegalStateException(call.told(), e);
        }
    }

    private static int[] numbers(String all, String between) {
        if (all.isBlank()) {
            return new int[0];
        }
        String[] parts = all.strip().split(between);
        int[] ints = new int[parts.length];
        for (int i = 0; i < parts.length; i++) {
            ints[i] = number(parts[i].strip());
        }
        return ints;
    }

    private static int number(String word) {
        return WORDS.containsKey(word) ? WORDS.get(word) : Integer.parseInt(word);
    }
}
