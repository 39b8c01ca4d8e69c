import java.io.IOException;
import java.lang.reflect.Constructor;
import java.lang.reflect.Field;
import java.lang.reflect.Method;
import java.lang.reflect.Modifier;
import java.nio.charset.StandardCharsets;
import java.nio.file.Files;
import java.nio.file.Path;
import java.util.ArrayList;
import java.util.Arrays;
import java.util.List;
import java.util.Map;
import java.util.Set;
import java.util.TreeMap;
import java.util.TreeSet;
import java.util.regex.Matcher;
import java.util.regex.Pattern;

/**
 * The document from its first line to its last: src/test/document/sentences.txt quotes it whole, piece
 * by piece, each piece with the calls that it decides, and tells there how it is written.
 */
public final class DocumentTests {
    private static final Path SENTENCES = Path.of("src/test/document/sentences.txt");
    private static final Path DOCUMENT = Path.of("../shared/DOC.md");
    private static final Path SOURCE = Path.of("src/main/java/TurnedStones.java");
    private static final int PROMISES = 43, MOST_CALLS = 512;
    private static int wrong = 0;

    /** A piece of the document, and the lines that try it. */
    private static final class Piece {
        final StringBuilder quote = new StringBuilder();
        final List<String> lines = new ArrayList<>();

        boolean tells() {
            return lines.stream().anyMatch(line -> line.startsWith("none: ") || line.startsWith("check ") || line.contains(" = "));
        }
    }

    private static void due(boolean good, String what) {
        if (good) return;
        wrong++;
        System.out.println(what);
    }

    public static void main(String[] args) throws IOException {
        List<Piece> pieces = pieces(Files.readAllLines(SENTENCES, StandardCharsets.UTF_8));
        isWholeDocument(pieces);
        Set<Integer> tried = new TreeSet<>();
        for (Piece piece : pieces) {
            int before = wrong + Script.wrong();
            due(piece.tells(), "no call tries this piece");
            tryPiece(piece, tried);
            if (wrong + Script.wrong() > before) System.out.println("  in: " + piece.quote);
        }
        for (int p = 1; p <= PROMISES; p++) due(tried.contains(p), "promise " + p + " is not tried");
        System.out.println(pieces.size() + " pieces of the document");
        if (wrong != 0) System.exit(1);
        Script.end();
    }

    private static List<Piece> pieces(List<String> lines) {
        List<Piece> all = new ArrayList<>();
        boolean quoting = false;
        for (String line : lines) {
            boolean quoted = line.startsWith(">");
            if (quoted && !quoting) all.add(new Piece());
            if (quoted) all.get(all.size() - 1).quote.append(line.substring(1)).append('\n');
            else if (!line.isBlank() && !line.startsWith("#")) all.get(all.size() - 1).lines.add(line);
            quoting = quoted;
        }
        return all;
    }

    private static String plain(String text) {
        return text.strip().replaceAll("\\s+", " ");
    }

    private static void isWholeDocument(List<Piece> pieces) throws IOException {
        StringBuilder quoted = new StringBuilder();
        for (Piece piece : pieces) quoted.append(piece.quote);
        String got = plain(quoted.toString());
        String want = plain(Files.readString(DOCUMENT, StandardCharsets.UTF_8));
        int same = 0;
        while (same < got.length() && same < want.length() && got.charAt(same) == want.charAt(same)) same++;
        due(got.equals(want), "the document goes on otherwise: " + want.substring(same, Math.min(same + 90, want.length())));
    }

    private static void tryPiece(Piece piece, Set<Integer> tried) {
        int promise = 0;
        StringBuilder script = new StringBuilder();
        for (String line : piece.lines) {
            if (line.startsWith("check ")) check(line.substring(6), piece.quote.toString());
            else if (line.startsWith("promise ") || line.equals("new")) {
                tryScript(promise, script, tried);
                if (!line.equals("new")) promise = Integer.parseInt(line.substring(8));
            } else if (!line.startsWith("none: ")) script.append(line).append('\n');
        }
        tryScript(promise, script, tried);
    }

    private static void tryScript(int promise, StringBuilder script, Set<Integer> tried) {
        if (script.length() == 0) return;
        due(promise >= 1 && promise <= PROMISES, "no promise is named: " + script);
        Script.run(promise, script.toString());
        tried.add(promise);
        script.setLength(0);
    }

    private static void check(String what, String quote) {
        switch (what) {
            case "calls": lastCalls(); break;
            case "face": face(quote); break;
            case "heading": heading(quote); break;
            default: due(false, "no such check: " + what);
        }
    }

    /** The 512th call is answered as the first one. */
    private static void lastCalls() {
        TurnedStones years = new TurnedStones();
        for (int i = 1; i <= MOST_CALLS; i++) due(years.turn(TurnedStones.NONE) == i, "turn(NONE), call " + i);
        TurnedStones rows = new TurnedStones();
        rows.row(0, 60);
        for (int i = 2; i < MOST_CALLS; i++) due(rows.lay(0, i % 60, i) == 1, "lay, call " + i);
        due(rows.mean(0) == 1, "mean, the 512th call");
        TurnedStones found = new TurnedStones();
        for (int i = 1; i < MOST_CALLS; i++) due(found.at(0, 0) == TurnedStones.FINDING, "at, call " + i);
        due(found.findings(1) == MOST_CALLS - 1, "findings, the 512th call");
    }

    /** Every public member that the document names, as it names it, and no other. */
    private static void face(String quote) {
        Map<String, Integer> constants = new TreeMap<>();
        Set<String> calls = new TreeSet<>();
        Matcher constant = Pattern.compile("([A-Z]+) = (-\\d+)").matcher(quote);
        while (constant.find()) constants.put(constant.group(1), Integer.valueOf(constant.group(2)));
        Matcher call = Pattern.compile("public (int|long) (\\w+)\\(([^)]*)\\);").matcher(quote);
        while (call.find()) calls.add(call.group(1) + " " + call.group(2) + "(" + call.group(3).replaceAll(" \\w+(, |$)", "$1") + ")");
        due(constants.equals(publicConstants()), "the constants are " + publicConstants());
        due(calls.equals(publicCalls()), "the calls are " + publicCalls());
        Constructor<?>[] made = TurnedStones.class.getConstructors();
        due(made.length == 1 && made[0].getParameterCount() == 0, "the constructor");
        due(TurnedStones.class.getClasses().length == 0, "a class inside is public");
        due(Modifier.isPublic(TurnedStones.class.getModifiers()) && Modifier.isFinal(TurnedStones.class.getModifiers()), "public, final");
    }

    private static Map<String, Integer> publicConstants() {
        Map<String, Integer> all = new TreeMap<>();
        for (Field field : TurnedStones.class.getFields()) {
            try {
                due(Modifier.isStatic(field.getModifiers()) && Modifier.isFinal(field.getModifiers()), field + " is no constant");
                all.put(field.getName(), field.getInt(null));
            } catch (IllegalAccessException odd) {
                throw new IllegalStateException(odd);
            }
        }
        return all;
    }

    private static Set<String> publicCalls() {
        Set<String> all = new TreeSet<>();
        for (Method method : TurnedStones.class.getDeclaredMethods()) {
            if (!Modifier.isPublic(method.getModifiers())) continue;
            String types = String.join(", ", Arrays.stream(method.getParameterTypes()).map(Class::getName).toList());
            all.add(method.getReturnType() + " " + method.getName() + "(" + types + ")");
        }
        return all;
    }

    /** The class has the heading, and behind it just those calls, up to the next heading. */
    private static void heading(String quote) {
        String heading = plain(quote.substring(quote.indexOf("----"))).replaceAll("\\.$", "");
        List<String> named = new ArrayList<>();
        Matcher name = Pattern.compile("`(\\w+)`").matcher(quote);
        while (name.find()) named.add(name.group(1));
        String source;
        try {
            source = Files.readString(SOURCE, StandardCharsets.ISO_8859_1);
        } catch (IOException odd) {
            throw new IllegalStateException(odd);
        }
        int from = source.indexOf("// " + heading + "\n");
        due(from >= 0, "the class does not say: " + heading);
        if (from < 0) return;
        int to = source.indexOf("// ----", from + 1);
        List<String> found = new ArrayList<>();
        Matcher method = Pattern.compile("\n    public \\w+ (\\w+)\\(").matcher(source.substring(from, to < 0 ? source.length() : to));
        while (method.find()) found.add(method.group(1));
        due(found.equals(named), "behind " + heading + " come " + found);
    }
}
