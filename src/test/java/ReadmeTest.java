import java.io.File;
import java.lang.reflect.Method;
import java.nio.file.Files;
import java.nio.file.Path;
import java.util.Arrays;
import java.util.List;
import java.util.regex.Matcher;
import java.util.regex.Pattern;

/** What README.md says: its run of calls answers as it tells, and it names the tests that there are. */
public final class ReadmeTest {
    private static final Pattern CALL =
        Pattern.compile("planner\\.(\\w+)\\(([^)]*)\\); +// (throws )?([-.\\w]+)(?:: .*)?");

    private final Watched planner = new Watched();
    private final SlowModel model = new SlowModel();

    public static void main(String[] args) throws Exception {
        Checks.at("README.md");
        List<String> lines = Files.readAllLines(Path.of("README.md"));
        new ReadmeTest().run(lines.subList(lines.indexOf("```java") + 1, lines.size()));
        String page = String.join(" ", lines);
        Checks.eq("the number of calls is told", page.contains("made for 512 calls") ? 1 : 0, 1);
        for (String file : new File("src/test/java").list()) {
            String test = file.replace(".java", "");
            Checks.eq(test + " is told", page.contains("- `" + test + "`:") ? 1 : 0, test.endsWith("Test") ? 1 : 0);
        }
        Checks.finish();
    }

    private void run(List<String> lines) {
        List<String> calls = lines.subList(0, lines.indexOf("```")).stream().filter(line -> !line.isBlank()).toList();
        Checks.same("the first line", calls.get(0), "EnvelopePlanner planner = new EnvelopePlanner();");
        Checks.eq("there are calls", calls.size() > 20 ? 1 : 0, 1);
        for (String line : calls.subList(1, calls.size())) {
            Matcher call = CALL.matcher(line);
            if (!call.matches()) {
                Checks.complain("not a call with its answer: " + line);
                continue;
            }
            String due = (call.group(3) == null ? "" : "throws.") + call.group(4);
            answers(line, call.group(1), call.group(2).isEmpty() ? new String[0] : call.group(2).split(", "), due);
        }
    }

    private void answers(String line, String name, String[] arguments, String due) {
        long methods = Arrays.stream(EnvelopePlanner.class.getMethods())
            .filter(method -> isOf(method, name, arguments.length)).count();
        Checks.eq("a call of the face: " + line, methods, 1);
        int[] numbers = Arrays.stream(arguments).mapToInt(Script::numberOf).toArray();
        Checks.same(line, planner.ask(name, numbers), due);
        Checks.same(line + " of the slow model", Script.answerOf(model, name, numbers), due);
    }

    private static boolean isOf(Method method, String name, int parameters) {
        return method.getName().equals(name) && method.getParameterCount() == parameters;
    }
}
