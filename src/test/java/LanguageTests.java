import java.lang.reflect.Constructor;
import java.lang.reflect.Field;
import java.lang.reflect.Method;
import java.lang.reflect.Modifier;
import java.nio.charset.StandardCharsets;
import java.nio.file.Files;
import java.nio.file.Path;
import java.util.Arrays;
import java.util.Set;
import java.util.TreeSet;
import java.util.regex.Matcher;
import java.util.regex.Pattern;

/** The face of the class, and the rules of LANGUAGE.md that can be seen in its text. */
public final class LanguageTests {
    private static final String FACE = "int row(int,int); int lay(int,int,int); int at(int,int); int tear(int);"
        + " int copy(int,int,int,int,int); int mean(int); int text(int,int); int put(int,int,int); int fault(int);"
        + " int town(int); int stone(int,int); int mark(int,int); int law(int,int); int reads(int,int,int);"
        + " int stands(int); int laws(); int turn(int); int till(int,int); int keep(int); int on(int); int state();"
        + " int years(int); int way(int,int); int lost(int); int share(int); int together(); int mend(int);"
        + " int contest(int,int); int engrave(int,int,int,int); int lose(int); int histories(int); int when(int,int);"
        + " int turned(int,int); int odds(int,int,int); int lives(int,int); int asked(); long upper(); long lower();"
        + " int count(int); int finding(); int findings(int); long digest()";
    private static int wrong = 0;

    private static void due(boolean good, String what) {
        if (good) return;
        wrong++;
        System.out.println(what);
    }

    public static void main(String[] args) throws Exception {
        face();
        classesInside();
        text(Files.readString(Path.of("src/main/java/TurnedStones.java"), StandardCharsets.ISO_8859_1));
        System.out.println(wrong == 0 ? "the rules are kept" : wrong + " rules are not kept");
        if (wrong != 0) System.exit(1);
    }

    private static void face() {
        Set<String> want = new TreeSet<>(Arrays.asList(FACE.split("; ")));
        Set<String> got = new TreeSet<>();
        Set<String> names = new TreeSet<>();
        for (Method m : TurnedStones.class.getDeclaredMethods()) {
            if (!Modifier.isPublic(m.getModifiers())) continue;
            String types = Arrays.toString(m.getParameterTypes()).replaceAll("[\\[\\] ]", "");
            got.add(m.getReturnType() + " " + m.getName() + "(" + types + ")");
            names.add(m.getName());
        }
        due(got.equals(want), "the face is " + got);
        for (Method m : TurnedStones.class.getDeclaredMethods()) {
            boolean isPublic = Modifier.isPublic(m.getModifiers());
            due(isPublic || Modifier.isPrivate(m.getModifiers()), "visible: " + m);
            due(isPublic || !names.contains(m.getName()), "bears the name of a public one: " + m);
        }
        for (Field f : TurnedStones.class.getDeclaredFields()) {
            boolean constant = "BAD FULL FINDING STATE SPENT NONE".contains(f.getName());
            due(constant ? Modifier.isPublic(f.getModifiers()) : Modifier.isPrivate(f.getModifiers()), "visible: " + f);
        }
        Constructor<?>[] made = TurnedStones.class.getDeclaredConstructors();
        due(made.length == 1 && Modifier.isPublic(made[0].getModifiers()), "the constructor");
        due(Modifier.isFinal(TurnedStones.class.getModifiers()), "the class is final");
    }

    private static void classesInside() {
        Class<?>[] inside = TurnedStones.class.getDeclaredClasses();
        due(inside.length + 1 <= 12, "too many classes");
        for (Class<?> c : inside) {
            due(Modifier.isStatic(c.getModifiers()), "not static: " + c);
            int fields = 0;
            for (Field f : c.getDeclaredFields()) {
                if (Modifier.isStatic(f.getModifiers())) due(Modifier.isFinal(f.getModifiers()), "static state: " + f);
                else fields++;
            }
            due(fields <= 20, "too many fields: " + c);
            for (Method m : c.getDeclaredMethods()) due(m.getParameterCount() <= 7, "too many parameters: " + m);
        }
    }

    private static void text(String source) {
        String code = source.replaceAll("(?s)/\\*.*?\\*/", " ").replaceAll("//[^\n]*", " ");
        String[] words = {"throw", "throws", "try", "catch", "finally", "synchronized", "assert", "protected", "package",
            "hashCode", "toString", "System\\.out", "Object", "Random", "currentTimeMillis", "nanoTime", "\\w+Exact"};
        for (String word : words) due(!Pattern.compile("\\b" + word + "\\b").matcher(code).find(), "found: " + word);
        due(!code.contains("->") && !code.contains("::"), "found: a lambda or a method reference");
        due(!Pattern.compile("static\\s*\\{").matcher(code).find(), "found: a static block");
        Matcher imports = Pattern.compile("import ([^;]*);").matcher(code);
        while (imports.find()) due(imports.group(1).equals("java.util.Arrays"), "import " + imports.group(1));
        for (char c : source.toCharArray()) due(c < 128, "a sign above 127");
        methodSizes(source.split("\n"));
    }

    private static void methodSizes(String[] lines) {
        int start = 0;
        for (int i = 0; i < lines.length; i++) {
            if (lines[i].matches("( {4}| {8})\\S.*\\) \\{")) start = i;
            if (lines[i].matches(" {4}\\}| {8}\\}")) due(i - start <= 60, "long method at line " + (start + 1));
        }
    }
}
