import java.io.IOException;
import java.lang.reflect.Method;
import java.lang.reflect.Modifier;
import java.nio.file.Files;
import java.nio.file.Path;
import java.util.List;
import java.util.regex.Matcher;
import java.util.regex.Pattern;
import java.util.stream.Stream;

/** README.md: its example answers as it says there, and it names every call and every test. */
public final class ReadmeTest {
    private static final Due DUE = new Due("ReadmeTest");
    private static int linesSeen = 0;

    public static void main(String[] args) throws IOException {
        String readme = Files.readString(Path.of("README.md"));
        example(readme);
        namesEveryCall(readme);
        namesEveryTest(readme);
        DUE.end();
    }

    private static void example(String readme) {
        PointCrowds crowds = new PointCrowds();
        int a = crowds.point(0, 0, 2);
        says(readme, "int a = crowds.point(0, 0, 2);", a);
        int b = crowds.point(3, 4, 1);
        says(readme, "int b = crowds.point(3, 4, 1);", b);
        int c = crowds.point(50, 0, 1);
        says(readme, "int c = crowds.point(50, 0, 1);", c);
        says(readme, "crowds.demand(3);", crowds.demand(3));
        says(readme, "crowds.reach(25);", crowds.reach(25));
        says(readme, "crowds.kind(a);", crowds.kind(a));
        says(readme, "crowds.crowd(b);", crowds.crowd(b));
        says(readme, "crowds.kind(c);", crowds.kind(c));
        says(readme, "crowds.belongs(0, 5);", crowds.belongs(0, 5));
        says(readme, "crowds.dense(c);", crowds.dense(c));
        says(readme, "crowds.meet(a, c);", crowds.meet(a, c));
        says(readme, "crowds.crowds(0);", crowds.crowds(0));
        long lines = readme.lines().filter(line -> line.contains("; ") && line.contains(" // ")).count();
        DUE.same("lines of the example that were tried", linesSeen, lines);
    }

    private static void says(String readme, String code, long got) {
        linesSeen++;
        Matcher line = Pattern.compile("(?m)^" + Pattern.quote(code) + " +// (-?\\d+)(?::|$)").matcher(readme);
        boolean there = line.find();
        DUE.holds("README.md has the line " + code + " with its answer", there);
        if (there) {
            DUE.same(code, got, Long.parseLong(line.group(1)));
        }
    }

    private static void namesEveryCall(String readme) {
        for (Method method : PointCrowds.class.getDeclaredMethods()) {
            if (Modifier.isPublic(method.getModifiers())) {
                String call = "| `" + method.getName() + "(" + "\\w+, ".repeat(method.getParameterCount());
                String pattern = call.replaceAll(", $", "").replaceAll("[|(]", "\\\\$0") + "\\)` \\|";
                DUE.holds("README.md tells of " + method.getName(),
                        Pattern.compile(pattern).matcher(readme).find());
            }
        }
    }

    private static void namesEveryTest(String readme) throws IOException {
        DUE.holds("README.md tells how to run the tests", readme.contains("```sh\n.ci/run\n```"));
        DUE.holds("README.md tells of ../shared/tests", readme.contains("`../shared/tests`"));
        try (Stream<Path> files = Files.list(Path.of("src/test/java"))) {
            List<String> names = files.map(file -> file.getFileName().toString()).toList();
            for (String name : names) {
                if (name.endsWith("Test.java")) {
                    DUE.holds("README.md tells of " + name,
                            readme.contains("`" + name.replace(".java", "") + "`"));
                }
            }
        }
    }
}
