import java.io.IOException;
import java.nio.file.Files;
import java.nio.file.Path;
import java.util.ArrayList;
import java.util.HashMap;
import java.util.HashSet;
import java.util.List;
import java.util.Map;
import java.util.Set;
import java.util.regex.Matcher;
import java.util.regex.Pattern;

/** Makes the calls of README.md, one behind the other, and compares the answers told there. Runs where src stands. */
public final class ReadmeTest {
    private static final String FIRST = "PartcopyistBench bench = new PartcopyistBench();";
    /** A call, perhaps kept under a name, and its answer, perhaps explained behind a colon. */
    private static final Pattern CALL = Pattern.compile(
            "(?:(\\w+) (\\w+) = )?bench\\.(\\w+)\\(([^()]*)\\); *// (throws \\w+|[^ :]+)(?:: .+)?");

    private static final Check check = new Check("ReadmeTest");
    private static final PartcopyistBench bench = new PartcopyistBench();
    private static final Map<String, Object> kept = new HashMap<>();
    private static final Set<String> called = new HashSet<>();

    public static void main(String[] args) throws IOException {
        List<String> lines = program(Files.readAllLines(Path.of("README.md")));
        check.same("the first line of the program", FIRST, () -> lines.isEmpty() ? "" : lines.get(0));
        for (int i = 1; i < lines.size(); i++) {
            lookAt(lines.get(i));
        }
        check.same("calls of the face that are not told", Set.of(), () -> notTold());
        check.end();
    }

    /** The lines that stand in the README as Java, but for the empty ones. */
    private static List<String> program(List<String> readme) {
        List<String> found = new ArrayList<>();
        boolean isJava = false;
        for (String line : readme) {
            if (line.startsWith("```")) {
                isJava = line.equals("```java");
            } else if (isJava && !line.isBlank()) {
                found.add(line);
            }
        }
        return found;
    }

    private static void lookAt(String line) {
        Matcher parts = CALL.matcher(line);
        boolean isCall = parts.matches();
        check.same("a call and its answer in '" + line + "'", true, () -> isCall);
        if (!isCall) {
            return;
        }
        Called call = Called.of(parts.group(3), arguments(parts.group(4)));
        called.add(call.name());
        String answer = call.answer(bench);
        check.same("'" + line + "'", parts.group(5), () -> answer);
        if (parts.group(2) != null) {
            check.same("the type of '" + line + "'", "int", () -> parts.group(1));
            check.same("a new name in '" + line + "'", false, () -> kept.containsKey(parts.group(2)));
            kept.put(parts.group(2), Integer.valueOf(answer));
        }
    }

    private static Object[] arguments(String text) {
        List<Object> arguments = new ArrayList<>();
        for (String argument : text.isEmpty() ? new String[0] : text.split(", ")) {
            arguments.add(value(argument));
        }
        return arguments.toArray();
    }

    private static Object value(String argument) {
        if (argument.equals("true") || argument.equals("false")) {
            return Boolean.valueOf(argument);
        }
        return kept.containsKey(argument) ? kept.get(argument) : Integer.valueOf(argument);
    }

    private static Set<String> notTold() {
        Set<String> names = new HashSet<>(Called.names());
        names.removeAll(called);
        return names;
    }
}
