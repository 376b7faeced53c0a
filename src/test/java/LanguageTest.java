import java.io.IOException;
import java.lang.reflect.Field;
import java.lang.reflect.Modifier;
import java.nio.file.Files;
import java.nio.file.Path;
import java.util.ArrayList;
import java.util.List;
import java.util.Map;
import java.util.Set;
import java.util.TreeMap;
import java.util.regex.Matcher;
import java.util.regex.Pattern;

/** What of ../shared/LANGUAGE.md can be seen in the class's source by plain looking; the face is FaceTest's. */
public final class LanguageTest {
    private static final Due DUE = new Due("LanguageTest");
    private static final Path SOURCE = Path.of("src/main/java/CaveBreath.java");

    private static final Set<String> IMPORTS = Set.of("java.util.Arrays", "java.util.ArrayList", "java.util.List",
        "java.util.Iterator");
    private static final Set<String> LIBRARY = Set.of("System.arraycopy", "Arrays.fill", "Arrays.copyOf",
        "Arrays.copyOfRange", "List.of", "Math.min", "Math.max", "Math.abs", "Math.floorDiv", "Math.floorMod",
        "Integer.bitCount", "Integer.compare", "Long.compare");
    // The document names no exception, so none is thrown, and there is none to catch.
    private static final String[] WORDS = {"package", "throw", "throws", "try", "catch", "finally", "synchronized",
        "assert", "native", "volatile", "transient", "strictfp", "protected", "Thread", "Random", "Object"};
    private static final Set<String> NO_NAMES = Set.of("if", "for", "while", "switch", "return", "new", "else");

    private static final int MOST_LINES = 60, MOST_PARAMETERS = 7, MOST_DEEP = 8, MOST_FIELDS = 20;

    // What a method's body calls, by name: methods of one name in several classes count as one.
    private static final Map<String, String> BODIES = new TreeMap<>();

    public static void main(String[] args) throws IOException {
        String code = bare(Files.readString(SOURCE));
        words(code);
        library(code);
        methods(code);
        depth();
        fields();
        DUE.end();
    }

    /** The source without comments and without what stands in quotes. */
    private static String bare(String source) {
        return source.replaceAll("(?s)/\\*.*?\\*/", "").replaceAll("//[^\n]*", "")
            .replaceAll("\"(\\\\.|[^\"\\\\])*\"", "\"\"").replaceAll("'(\\\\.|[^'\\\\])'", "'x'");
    }

    private static void words(String code) {
        for (String word : WORDS) {
            DUE.holds("rule 2, 6, 13: no '" + word + "'", !Pattern.compile("\\b" + word + "\\b").matcher(code).find());
        }
        DUE.holds("rule 2: no lambda", !code.contains("->"));
        DUE.holds("rule 2: no method reference", !code.contains("::"));
        DUE.holds("rule 5: no static initialiser block", !Pattern.compile("\\bstatic\\s*\\{").matcher(code).find());
        DUE.holds("rule 3: no row of three dimensions", !code.contains("[][][]"));
        DUE.holds("rule 10: no text joined by +", !code.contains("\"\" +") && !code.contains("+ \"\""));
    }

    private static void library(String code) {
        Matcher imports = Pattern.compile("import\\s+([\\w.*]+)\\s*;").matcher(code);
        while (imports.find()) {
            DUE.holds("rule 4: import " + imports.group(1), IMPORTS.contains(imports.group(1)));
        }
        Matcher calls = Pattern.compile("\\b([A-Z]\\w*[a-z]\\w*\\.\\w+)\\s*\\(").matcher(code);
        while (calls.find()) {
            DUE.holds("rule 4: " + calls.group(1), LIBRARY.contains(calls.group(1)));
        }
    }

    private static void methods(String code) {
        Matcher heads = Pattern.compile("\\n +(?:[\\w\\[\\]]+ )*(\\w+)\\(([^()]*)\\) \\{").matcher(code);
        while (heads.find()) {
            String name = heads.group(1);
            if (NO_NAMES.contains(name)) {
                continue;
            }
            String body = body(code, heads.end());
            BODIES.merge(name, body, String::concat);
            long lines = body.chars().filter(c -> c == '\n').count() + 1;
            DUE.holds("rule 11: " + name + " is short: " + lines + " lines", lines <= MOST_LINES);
            DUE.holds("rule 11: " + name + " takes seven at most", heads.group(2).split(",").length <= MOST_PARAMETERS);
        }
        DUE.holds("methods were found: " + BODIES.keySet(), BODIES.size() > 50);
    }

    /** From behind a { up to the } that belongs to it. */
    private static String body(String code, int begin) {
        int open = 1;
        int at = begin;
        while (open > 0 && at < code.length()) {
            open += code.charAt(at) == '{' ? 1 : code.charAt(at) == '}' ? -1 : 0;
            at++;
        }
        return code.substring(begin, at);
    }

    private static void depth() {
        for (String name : BODIES.keySet()) {
            List<String> open = new ArrayList<>();
            int deep = deepest(name, open);
            DUE.holds("rule 8, 11: " + name + " goes eight deep at most: " + deep, deep <= MOST_DEEP);
        }
    }

    /** How many calls stand open at once below this one, itself too; one that calls itself counts as too deep. */
    private static int deepest(String name, List<String> open) {
        if (open.contains(name)) {
            return MOST_DEEP + 1;
        }
        open.add(name);
        int below = 0;
        Matcher calls = Pattern.compile("\\b(\\w+)\\(").matcher(BODIES.get(name));
        while (calls.find()) {
            // What is made by new counts by its constructor, which is no method here but the class's own.
            if (BODIES.containsKey(calls.group(1))) {
                below = Math.max(below, deepest(calls.group(1), open));
            }
        }
        open.remove(open.size() - 1);
        return below + 1;
    }

    private static void fields() {
        List<Class<?>> all = new ArrayList<>(List.of(CaveBreath.class.getDeclaredClasses()));
        all.add(CaveBreath.class);
        for (Class<?> c : all) {
            int own = 0;
            for (Field f : c.getDeclaredFields()) {
                if (!Modifier.isStatic(f.getModifiers())) {
                    own++;
                    continue;
                }
                Class<?> type = f.getType();
                DUE.holds("rule 5: " + f + " is a constant", Modifier.isFinal(f.getModifiers())
                    && (type.isPrimitive() || type == String.class || type.isArray()));
            }
            DUE.holds("rule 11: " + c + " has some twenty fields: " + own, own <= MOST_FIELDS);
        }
    }
}
