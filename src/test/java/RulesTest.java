import java.io.IOException;
import java.nio.file.Files;
import java.nio.file.Path;
import java.util.ArrayDeque;
import java.util.Deque;
import java.util.Map;
import java.util.Set;
import java.util.TreeMap;
import java.util.TreeSet;
import java.util.regex.Matcher;
import java.util.regex.Pattern;

/** The rules of LANGUAGE.md that can be seen in the text of the class. FaceTest has the first. */
public final class RulesTest {
    private static final Path CLASS = Path.of("src/main/java/PointCrowds.java");

    /** Rules 2, 5, 6, 10 and 13, and of the others what the class does without. */
    private static final String[] FORBIDDEN = {
        "import ", "package ", "->", "::", "catch", "try ", "throw", "finally", "synchronized",
        "assert", "Exact(", "System.", "Object", "double", "float", "static {", "class ", "record ",
        "enum ", "interface ", "instanceof", "null", "String", "Integer", "ArrayList", "\"", "/", "%",
    };

    /** Of rule 4 the class uses this much. */
    private static final Set<String> LIBRARY =
            Set.of("Math.abs", "Math.max", "Math.min", "Long.MAX_VALUE");

    private static final Pattern METHOD = Pattern.compile(
            "(?ms)^    (?:public|private) (?:static )?(?:\\w+ )?(\\w+)\\([^)]*\\) \\{\n(.*?)^    \\}\n");

    private static final Due DUE = new Due("RulesTest");

    public static void main(String[] args) throws IOException {
        String text = Files.readString(CLASS);
        String code = text.replaceAll("(?s)/\\*.*?\\*/", "").replaceAll("//[^\n]*", "");
        String body = code.substring(code.indexOf('{') + 1);
        forbidden(body);
        library(body);
        loops(body);
        casts(body);
        Map<String, String> methods = methods(body);
        made(body, methods.getOrDefault("PointCrowds", ""));
        lengths(methods);
        depths(methods);
        DUE.end();
    }

    private static void forbidden(String body) {
        for (String part : FORBIDDEN) {
            DUE.holds("the code has no '" + part + "'", !body.contains(part));
        }
    }

    /** Rule 4. */
    private static void library(String body) {
        for (String used : found(body, "\\b([A-Z]\\w*\\.\\w+)")) {
            DUE.holds("the library has " + used, LIBRARY.contains(used));
        }
        for (String used : found(body, "\\b[a-z]\\w*\\.(\\w+)")) {
            DUE.holds(used + " is a row's length", used.equals("length"));
        }
    }

    /** Rule 9: a counter goes up to the count of points, or down to 0. */
    private static void loops(String body) {
        Matcher loop = Pattern.compile("\\b(for|while|do) ?([({].*)\n((?:.*\n)*?) *\\}\n").matcher(body);
        int seen = 0;
        while (loop.find()) {
            seen++;
            boolean upwards = loop.group(1).equals("for")
                    && loop.group(2).matches("\\(int (\\w+) = \\d+; \\1 < MOST_POINTS\\b.*; \\1\\+\\+\\) \\{");
            Matcher down = Pattern.compile("\\((\\w+) > 0 && .*").matcher(loop.group(2));
            boolean downwards = loop.group(1).equals("while") && down.matches()
                    && loop.group(3).contains(" " + down.group(1) + "--;");
            DUE.holds("a loop has an end: " + loop.group(2), upwards || downwards);
            // The next loop may stand inside of this one.
            loop.region(loop.end(2), body.length());
        }
        int words = body.split("\\b(for|while|do)\\b", -1).length - 1;
        DUE.same("loops looked at", seen, words);
        DUE.holds("there are loops", seen > 0);
    }

    /** Rule 7: a cast of an int to a long can't fail; there is no other. */
    private static void casts(String body) {
        for (String to : found(body, "\\((\\w+(?:\\[\\])?)\\) ?[\\w(]")) {
            DUE.holds("(" + to + ") is a cast to long", to.equals("long"));
        }
    }

    /** Rule 12: rows are made by the constructor alone, each as long as there may be points. */
    private static void made(String body, String constructor) {
        for (String one : found(body, "\\bnew ([^;]*);")) {
            DUE.holds("new " + one + " is a row for all points",
                    one.matches("(int|long|boolean)\\[MOST_POINTS\\]"));
        }
        DUE.same("rows made outside the constructor",
                body.split("\\bnew\\b", -1).length - constructor.split("\\bnew\\b", -1).length, 0);
    }

    private static Map<String, String> methods(String body) {
        Map<String, String> methods = new TreeMap<>();
        Matcher matcher = METHOD.matcher(body);
        while (matcher.find()) {
            String before = methods.put(matcher.group(1), matcher.group(2));
            DUE.holds("one method alone is called " + matcher.group(1), before == null);
        }
        int declared = PointCrowds.class.getDeclaredMethods().length + 1;
        DUE.same("methods and the constructor, as found in the text", methods.size(), declared);
        return methods;
    }

    /** Rule 11. */
    private static void lengths(Map<String, String> methods) {
        methods.forEach((name, lines) ->
                DUE.holds(name + " is short", lines.lines().count() <= 60));
    }

    /** Rules 8 and 11: no recursion, and no more than eight calls open at once, the library's too. */
    private static void depths(Map<String, String> methods) {
        for (String name : methods.keySet()) {
            int depth = depth(name, methods, new ArrayDeque<>());
            DUE.holds(name + " goes at most eight deep: " + depth, depth <= 8);
        }
    }

    private static int depth(String name, Map<String, String> methods, Deque<String> open) {
        if (open.contains(name)) {
            DUE.holds(name + " does not call itself", false);
            return 0;
        }
        open.push(name);
        int most = 0;
        for (String called : found(methods.get(name), "(?<!new )\\b(\\w+)\\(")) {
            if (methods.containsKey(called)) {
                most = Math.max(most, depth(called, methods, open));
            } else {
                DUE.holds(called + " is of the library", LIBRARY.contains("Math." + called));
                most = Math.max(most, 1);
            }
        }
        open.pop();
        return most + 1;
    }

    private static Set<String> found(String body, String pattern) {
        Set<String> found = new TreeSet<>();
        Matcher matcher = Pattern.compile(pattern).matcher(body);
        while (matcher.find()) {
            found.add(matcher.group(1));
        }
        return found;
    }
}
