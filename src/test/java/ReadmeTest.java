import java.io.IOException;
import java.lang.reflect.Method;
import java.nio.file.Files;
import java.nio.file.Path;
import java.util.List;

/** The example of README.md answers what it says there, and names every call; run from the project's root. */
public final class ReadmeTest {
    private static final Checks checks = new Checks();
    private static final VisitorLoom loom = new VisitorLoom();
    private static List<String> lines;
    private static int nextLine;

    public static void main(String[] args) throws IOException {
        String text = Files.readString(Path.of("README.md"));
        String example = between(text, "```java\n", "\n```");
        lines = List.of(example.split("\n"));
        checks.due("a new object first", "VisitorLoom loom = new VisitorLoom();", lines.get(nextLine++));
        says("group(0, 1, 1, 1)", loom.group(0, 1, 1, 1));
        says("consent(3, 0, 0, true)", loom.consent(3, 0, 0, true));
        says("event(17, 2, 3, 1, VisitorLoom.NONE, 1440)", loom.event(17, 2, 3, 1, VisitorLoom.NONE, 1440));
        says("profile(12)", loom.profile(12));
        says("sessions(12)", loom.sessions(12));
        says("tell()", loom.tell());
        says("told(1)", loom.told(1));
        says("link(2, 3, false)", loom.link(2, 3, false));
        says("tell()", loom.tell());
        says("told(0)", loom.told(0));
        checks.yes("the example has no line more", nextLine == lines.size());
        namesEveryCall(text);
        checks.end();
    }

    private static String between(String text, String begin, String end) {
        int from = text.indexOf(begin) + begin.length();
        return text.substring(from, text.indexOf(end, from));
    }

    private static void says(String call, Object answer) {
        String line = nextLine < lines.size() ? lines.get(nextLine++) : "";
        checks.yes("README.md has next loom." + call + ", not " + line, line.startsWith("loom." + call + ";"));
        checks.due("loom." + call, between(line + "// :", "// ", ":"), answer.toString());
    }

    private static void namesEveryCall(String text) {
        for (Method method : VisitorLoom.class.getMethods()) {
            if (method.getDeclaringClass() == VisitorLoom.class) {
                checks.yes("README.md names " + method.getName(), text.contains("`" + method.getName() + "`"));
            }
        }
    }
}
