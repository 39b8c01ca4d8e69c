import java.lang.reflect.InvocationTargetException;
import java.lang.reflect.Method;
import java.util.ArrayList;
import java.util.Arrays;
import java.util.HashMap;
import java.util.List;
import java.util.Map;
import java.util.Set;

/**
 * Runs of calls, written as lines, each with the answer that is due.
 *
 * <pre>
 *   # a comment
 *   row 0 60                    a call that must not be refused
 *   row 0 61 = BAD              a call with its answer: a number, NONE, BAD, FULL, STATE, SPENT or a finding
 *   at 0 1 = 1 asked 7          what asked() tells then
 *   share 1 = 2 told 1 4        what upper() and lower() tell then
 *   way 1 2 = 1 holds 2: 0      what a row has then
 *   digest = fold 8x0 "ab"      the answer is 17 and these, folded as digest() tells
 *   row {-1,6} 3 = BAD          the line once for each of these
 *   tear 0 = 1 ; row 0 2 = 2    several lines in one, for the sake of braces
 *   write 1 "g11 sabcd"         text 1 is made and put
 *   town "g11 sabcd"            text 0 is made and put, and it is the town
 *   lays 2: 1 3x0 MAX           row 2 is made and laid
 *   rule 0: 1 2                 law 0 is made by row 5, which is torn
 *   again 16 turn NONE          a call so many times
 * </pre>
 *
 * Each line that has an answer is run on an object of its own, behind all calls of the lines ahead,
 * and beside a twin to which the call is not made. So each refused call is looked at for itself: it
 * changes finding() and findings() alone, and whatever is asked of both objects they answer alike.
 */
final class Script {
    private static final int MOST_CALLS = 512;
    private static final int BAD = -1, FINDING = -3, NONE = -9;
    private static final List<String> FINDINGS = List.of("", "NOTHING", "BEYOND", "UNLIKE", "NOUGHT", "SIZE");
    private static final Map<String, Integer> NUMBERS = Map.of("BAD", BAD, "FULL", -2, "STATE", -4, "SPENT", -6,
        "NONE", NONE, "MIN", Integer.MIN_VALUE, "MAX", Integer.MAX_VALUE);
    private static final Set<String> TELL_ASKED = Set.of("lay", "at", "mean", "stone", "stands", "laws", "state",
        "years", "lost", "together", "mend", "contest", "when", "turned");
    private static final Set<String> TELL_FRACTIONS = Set.of("share", "histories", "odds", "lives");
    private static final Set<String> CHANGE_ROWS_AND_TEXTS = Set.of("row", "lay", "tear", "copy", "text", "put",
        "reads", "way");
    private static final Set<String> CHANGE_THE_TOWN = Set.of("town", "law", "turn", "till", "keep", "on", "engrave",
        "lose");
    private static final Map<String, Method> CALLS = new HashMap<>();
    private static int wrong = 0;
    private static int checks = 0;

    static {
        for (Method m : TurnedStones.class.getDeclaredMethods()) CALLS.put(m.getName(), m);
    }

    private record Call(String name, Integer... args) {
        @Override
        public String toString() {
            return name + "(" + String.join(", ", Arrays.stream(args).map(String::valueOf).toList()) + ")";
        }
    }

    /** An object with the number of calls made to it: what it answers behind the last one is free. */
    private final class Counted {
        private final TurnedStones x = new TurnedStones();
        private int calls = 0;

        long call(String name, Integer... args) {
            if (++calls > MOST_CALLS) throw new IllegalStateException("more than 512 calls: " + where);
            try {
                return ((Number) CALLS.get(name).invoke(x, (Object[]) args)).longValue();
            } catch (InvocationTargetException thrown) {
                due("throws " + thrown.getCause(), 1, 0);
                return Long.MIN_VALUE;
            } catch (IllegalAccessException | IllegalArgumentException odd) {
                throw new IllegalStateException(where, odd);
            }
        }

        long call(Call c) {
            return call(c.name, c.args);
        }
    }

    private final int promise;
    private final List<Call> made = new ArrayList<>();
    private final List<Boolean> prepared = new ArrayList<>();
    private final int[] found = new int[6];
    private int latest = 0;
    private String where = "";

    private Script(int promise) {
        this.promise = promise;
    }

    static void run(int promise, String lines) {
        Script script = new Script(promise);
        for (String raw : lines.split("\n")) {
            String line = raw.strip();
            if (line.isEmpty() || line.startsWith("#")) continue;
            for (String one : spread(line)) {
                for (String part : one.split(" ; ")) script.runLine(part.strip());
            }
        }
        script.duePrepared();
    }

    static int wrong() {
        return wrong;
    }

    /** Tells how it went, and ends the machine if something went wrong. */
    static void end() {
        System.out.println(checks + " checks, " + wrong + " wrong");
        if (wrong != 0) System.exit(1);
    }

    private static List<String> spread(String line) {
        int from = line.indexOf('{');
        int to = line.indexOf('}');
        if (from < 0 || to < from) return List.of(line);
        List<String> all = new ArrayList<>();
        for (String one : line.substring(from + 1, to).split(",")) {
            all.addAll(spread(line.substring(0, from) + one.strip() + line.substring(to + 1)));
        }
        return all;
    }

    private void runLine(String line) {
        where = line;
        String[] words = line.split("\\s+");
        if (words[0].equals("write")) write(number(words[1]), quoted(line));
        else if (line.startsWith("town \"")) {
            write(0, quoted(line));
            prepare(new Call("town", 0));
        } else if (words[0].equals("lays")) lays(line.substring(5));
        else if (words[0].equals("rule")) rule(line.substring(5));
        else if (words[0].equals("again")) {
            Call c = callOf(Arrays.copyOfRange(words, 2, words.length));
            for (int i = 0; i < number(words[1]); i++) prepare(c);
        } else if (line.contains(" = ")) check(line);
        else prepare(callOf(words));
    }

    private static String quoted(String line) {
        return line.substring(line.indexOf('"') + 1, line.lastIndexOf('"'));
    }

    private static int number(String word) {
        return NUMBERS.containsKey(word) ? NUMBERS.get(word) : Integer.parseInt(word);
    }

    private static Call callOf(String[] words) {
        Integer[] args = new Integer[words.length - 1];
        for (int i = 0; i < args.length; i++) args[i] = number(words[i + 1]);
        return new Call(words[0], args);
    }

    /** Numbers with blanks between; 3x7 is 7 three times. */
    private static List<Integer> numbers(String text) {
        List<Integer> all = new ArrayList<>();
        for (String word : text.strip().split("\\s+")) {
            if (word.isEmpty()) continue;
            int x = word.indexOf('x');
            for (int i = 0; i < (x < 0 ? 1 : Integer.parseInt(word.substring(0, x))); i++) all.add(number(word.substring(x + 1)));
        }
        return all;
    }

    private void write(int t, String text) {
        prepare(new Call("text", t, text.length()));
        for (int i = 0; i < text.length(); i++) {
            if (text.charAt(i) != ' ') prepare(new Call("put", t, i, (int) text.charAt(i)));
        }
    }

    private void lays(String rest) {
        int r = number(rest.substring(0, rest.indexOf(':')));
        List<Integer> values = numbers(rest.substring(rest.indexOf(':') + 1));
        prepare(new Call("row", r, values.size()));
        for (int i = 0; i < values.size(); i++) prepare(new Call("lay", r, i, values.get(i)));
    }

    private void rule(String rest) {
        lays("5" + rest.substring(rest.indexOf(':')));
        prepare(new Call("law", number(rest.substring(0, rest.indexOf(':'))), 5));
        prepare(new Call("tear", 5));
    }

    private void prepare(Call c) {
        made.add(c);
        prepared.add(true);
    }

    /** What has no answer in the script must not have been refused. */
    private void duePrepared() {
        Counted x = new Counted();
        for (int i = 0; i < made.size(); i++) {
            long answer = x.call(made.get(i));
            where = made.get(i) + " among the calls ahead";
            if (prepared.get(i) && answer < 0 && answer != NONE) due("it", answer, 1);
        }
    }

    /** A new object behind all calls of the lines ahead. */
    private Counted behindAll() {
        Counted x = new Counted();
        for (Call c : made) x.call(c);
        return x;
    }

    private void due(String what, long got, long want) {
        checks++;
        if (got == want) return;
        wrong++;
        System.out.println("promise " + promise + ": " + where + ": " + what + " answered " + got + ", due is " + want);
    }

    private void check(String line) {
        Call c = callOf(line.substring(0, line.indexOf(" = ")).split("\\s+"));
        String[] due = line.substring(line.indexOf(" = ") + 3).split("\\s+");
        int finding = FINDINGS.indexOf(due[0]);
        long want = finding > 0 ? FINDING : answer(due);
        if (finding > 0) {
            latest = finding;
            found[finding]++;
        }
        boolean refused = finding > 0 || NUMBERS.containsKey(due[0]) && want != NONE;
        Counted bare = behindAll();
        Counted x = behindAll();
        due(c.toString(), x.call(c), want);
        dueFindings(x);
        compare(c, refused, refused || want == NONE, bare, x);
        tells(c, refused || want == NONE, due);
        made.add(c);
        prepared.add(false);
        if (line.contains(" holds ")) holds(line.substring(line.indexOf(" holds ") + 7));
    }

    private static long answer(String[] due) {
        if (NUMBERS.containsKey(due[0])) return NUMBERS.get(due[0]);
        return due[0].equals("fold") ? folded(due) : Long.parseLong(due[0]);
    }

    private static long folded(String[] due) {
        long h = 17;
        for (int i = 1; i < due.length; i++) {
            List<Integer> values = due[i].startsWith("\"") ? signs(quoted(due[i])) : numbers(due[i]);
            for (int v : values) h = 31 * h + v;
        }
        return h;
    }

    private static List<Integer> signs(String text) {
        return text.chars().boxed().toList();
    }

    private void dueFindings(Counted x) {
        due("finding()", x.call("finding"), latest);
        for (int f = 1; f <= 5; f++) due("findings(" + f + ")", x.call("findings", f), found[f]);
    }

    /** What a call may not change is as it is with the twin that was not called. */
    private void compare(Call c, boolean refused, boolean untold, Counted bare, Counted x) {
        if (untold || !TELL_ASKED.contains(c.name)) due("asked() stays", x.call("asked"), bare.call("asked"));
        if (untold || !TELL_FRACTIONS.contains(c.name)) {
            due("upper() stays", x.call("upper"), bare.call("upper"));
            due("lower() stays", x.call("lower"), bare.call("lower"));
        }
        boolean stays = refused || untold && !c.name.equals("till");
        if (stays || !CHANGE_THE_TOWN.contains(c.name) && !CHANGE_ROWS_AND_TEXTS.contains(c.name)) {
            due("digest() stays", x.call("digest"), bare.call("digest"));
        }
        if (stays || !CHANGE_THE_TOWN.contains(c.name)) due("the outlook stays", apart(outlook(x), outlook(bare)), -1);
    }

    private static int apart(List<Long> some, List<Long> others) {
        for (int i = 0; i < some.size() && i < others.size(); i++) {
            if (!some.get(i).equals(others.get(i))) return i;
        }
        return some.size() == others.size() ? -1 : Math.min(some.size(), others.size());
    }

    private void tells(Call c, boolean untold, String[] due) {
        List<String> words = Arrays.asList(due);
        int asked = words.indexOf("asked");
        int told = words.indexOf("told");
        if (!untold && TELL_ASKED.contains(c.name) != asked > 0 || !untold && TELL_FRACTIONS.contains(c.name) != told > 0) {
            throw new IllegalStateException("what is told then isn't said: " + where);
        }
        if (asked < 0 && told < 0) return;
        Counted x = behindAll();
        x.call(c);
        if (asked > 0) due("asked()", x.call("asked"), number(due[asked + 1]));
        if (told > 0) {
            due("upper()", x.call("upper"), Long.parseLong(due[told + 1]));
            due("lower()", x.call("lower"), Long.parseLong(due[told + 2]));
        }
    }

    private void holds(String rest) {
        int r = number(rest.substring(0, rest.indexOf(':')));
        List<Integer> values = numbers(rest.substring(rest.indexOf(':') + 1));
        Counted x = behindAll();
        for (int i = 0; i < values.size(); i++) {
            due("at(" + r + ", " + i + ")", x.call("at", r, i), 1);
            due("place " + i, x.call("asked"), values.get(i));
        }
        due("the row's end", x.call("at", r, values.size()), FINDING);
        due("the row's end, finding()", x.call("finding"), FINDINGS.indexOf("BEYOND"));
    }

    /** What the calls that hang on the town, the laws, the engravings and the kept towns answer. */
    private List<Long> outlook(Counted x) {
        List<Long> seen = new ArrayList<>();
        for (int what = 0; what <= 5; what++) look(x, seen, "count", what);
        look(x, seen, "state");
        for (int k = 0; k < 6; k++) {
            for (int kind = 1; kind <= 5; kind++) look(x, seen, "mark", k, kind);
        }
        look(x, seen, "laws");
        look(x, seen, "together");
        for (int set = 0; set <= 15; set++) look(x, seen, "years", set);
        for (int l = 0; l < 4; l++) {
            look(x, seen, "stands", l);
            look(x, seen, "lost", 1 << l);
            look(x, seen, "share", 1 << l);
            look(x, seen, "lives", 1 << l, 5);
            look(x, seen, "mend", l);
            look(x, seen, "contest", l, 3);
            look(x, seen, "when", 3, l);
            look(x, seen, "odds", 3, 2, l);
        }
        look(x, seen, "histories", 0);
        look(x, seen, "histories", 9);
        look(x, seen, "turned", 3, 1);
        look(x, seen, "turned", 9, 9);
        for (int k = 0; k < 3; k++) {
            look(x, seen, "on", k);
            look(x, seen, "state");
        }
        return seen;
    }

    private void look(Counted x, List<Long> seen, String name, Integer... args) {
        long answer = x.call(name, args);
        seen.add(answer);
        if (answer < 0) return;
        if (TELL_ASKED.contains(name)) seen.add(x.call("asked"));
        if (TELL_FRACTIONS.contains(name)) {
            seen.add(x.call("upper"));
            seen.add(x.call("lower"));
        }
    }
}
