import java.lang.reflect.Method;
import java.lang.reflect.Modifier;
import java.nio.file.Files;
import java.nio.file.Path;
import java.util.List;

/** README.md's example is run here; each of its calls answers what README.md says beside it. */
public final class ReadmeTest {
    private static List<String> readme;
    private static int next = 0;

    public static void main(String[] args) throws Exception {
        readme = Files.readAllLines(Path.of("README.md"));
        theExampleAnswersAsItSays();
        eachCallIsNamed();
        theTestsAreNamed();
        Check.end();
    }

    private static void theExampleAnswersAsItSays() {
        GrateLayers furnace = new GrateLayers(3);
        next = readme.indexOf("```java") + 2;
        said("kind(0, 300, 100)", furnace.kind(0, 300, 100));
        said("bunker(0, 0, 5000)", furnace.bunker(0, 0, 5000));
        said("bunker(1, 1, 3000)", furnace.bunker(1, 1, 3000));
        said("plan(2)", furnace.plan(2));
        said("planned(0)", furnace.planned(0));
        said("planned(1)", furnace.planned(1));
        said("grab(0)", furnace.grab(0));
        said("grab(1)", furnace.grab(1));
        said("air(0, 600, 200)", furnace.air(0, 600, 200));
        said("burner(10000, 5000)", furnace.burner(10000, 5000));
        said("run(1)", furnace.run(1));
        said("bed(0, 1)", furnace.bed(0, 1));
        said("gas(0)", furnace.gas(0));
        said("burning()", furnace.burning());
        said("ash(2)", furnace.ash(2));
        said("balance(0)", furnace.balance(0));
        said("crane(0)", furnace.crane(0));
        Check.yes("the example ends here", "```".equals(line()));
    }

    private static String line() {
        return next < readme.size() ? readme.get(next) : "";
    }

    /** The example's next line is this call, with this answer. */
    private static void said(String call, Object answer) {
        String due = "furnace." + call + "; // " + answer + ":";
        String says = line().replaceAll(" +//", " //");
        Check.yes(due + " .. is the example's next line, which is: " + says, says.startsWith(due));
        next++;
    }

    private static void eachCallIsNamed() {
        for (Method method : GrateLayers.class.getDeclaredMethods()) {
            if (Modifier.isPublic(method.getModifiers())) {
                String row = "| `" + method.getName() + "(";
                Check.yes(row + " stands in a table",
                    readme.stream().anyMatch(text -> text.startsWith(row)));
            }
        }
    }

    private static void theTestsAreNamed() throws Exception {
        Check.yes("how to run the tests", readme.contains("    .ci/run"));
        try (var files = Files.list(Path.of("src/test/java"))) {
            for (Path file : (Iterable<Path>) files::iterator) {
                String name = "`" + file.getFileName().toString().replace(".java", "") + "`";
                Check.yes(name + " is named", readme.stream().anyMatch(text -> text.contains(name)));
            }
        }
    }
}
