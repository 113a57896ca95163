import java.io.IOException;
import java.lang.reflect.Method;
import java.nio.charset.StandardCharsets;
import java.nio.file.Files;
import java.nio.file.Path;
import java.util.Map;
import java.util.regex.Matcher;
import java.util.regex.Pattern;

/** The example of README.md: each call answers what the comment behind it says. */
public final class ReadmeTests {
    private static final Check CHECK = new Check();
    private static final Pattern TEXT = Pattern.compile("for \\(char c : \"([^\"]*)\"");
    private static final Pattern CALL = Pattern.compile("(?m)^x\\.(\\w+)\\(([^)]*)\\); +// (-?\\w+):");
    private static final Map<String, Integer> NAMED = Map.of("BAD", FewerLamps.BAD, "STATE", FewerLamps.STATE,
        "FULL", FewerLamps.FULL, "NONE", FewerLamps.NONE, "NO", FewerLamps.NO);

    public static void main(String[] args) throws IOException {
        String readme = Files.readString(Path.of("README.md"), StandardCharsets.US_ASCII);
        Matcher text = TEXT.matcher(readme);
        CHECK.holds("there is a town", text.find());
        FewerLamps x = new FewerLamps();
        Check.write(x, text.group(1));
        int calls = 0;
        Matcher call = CALL.matcher(readme);
        while (call.find()) {
            calls++;
            String due = call.group(3);
            long want = NAMED.containsKey(due) ? NAMED.get(due) : Long.parseLong(due);
            CHECK.due(call.group(), Calls.answer(x, call.group(1), numbers(call.group(2))), want);
        }
        CHECK.due("calls that are told", calls, readme.lines().filter(line -> line.startsWith("x.")).count());
        CHECK.holds("some are", calls > 0);
        everyCallIsNamed(readme);
        CHECK.end();
    }

    private static int[] numbers(String list) {
        if (list.isBlank()) {
            return new int[0];
        }
        return Pattern.compile(" *, *").splitAsStream(list.trim()).mapToInt(Integer::parseInt).toArray();
    }

    private static void everyCallIsNamed(String readme) {
        for (Method m : FewerLamps.class.getMethods()) {
            if (m.getDeclaringClass() == FewerLamps.class) {
                CHECK.holds("README names " + m.getName(), readme.contains("`" + m.getName() + "`"));
            }
        }
    }
}
