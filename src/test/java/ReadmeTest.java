import java.io.IOException;
import java.lang.reflect.Method;
import java.nio.file.Files;
import java.nio.file.Path;
import java.util.Arrays;
import java.util.HashMap;
import java.util.List;
import java.util.Map;
import java.util.Set;
import java.util.TreeSet;
import java.util.regex.Matcher;
import java.util.regex.Pattern;

/** What README.md tells by example is so: its calls, in their order, on one object. */
public final class ReadmeTest {
    private static final Pattern TEXT = Pattern.compile("String text = \"([^\"]*)\";");
    private static final Pattern CALL =
            Pattern.compile("x\\.(\\w+)\\(([-\\d, ]*)\\); *// (-?\\d+|[A-Z]+)(:.*)?");
    private static final Map<String, Integer> NAMES = Map.of("NONE", LavaLodger.NONE,
            "BAD", LavaLodger.BAD, "STATE", LavaLodger.STATE, "FULL", LavaLodger.FULL);
    private static final int MOST_CALLS = 512;

    private static final Due due = new Due();
    private static final LavaLodger x = new LavaLodger();
    private static final Map<String, Method> face = new HashMap<>();
    private static final Set<String> shown = new TreeSet<>();
    private static int calls = 0;

    public static void main(String[] args) throws IOException, ReflectiveOperationException {
        for (Method m : LavaLodger.class.getMethods()) {
            if (m.getDeclaringClass() == LavaLodger.class) {
                face.put(m.getName(), m);
            }
        }
        due.about("README.md");
        boolean isCode = false;
        for (String line : Files.readAllLines(Path.of("README.md"))) {
            if (line.startsWith("```")) {
                isCode = line.equals("```java");
            } else if (isCode) {
                follow(line);
            }
        }
        due.is("every call is shown " + shown, shown.equals(face.keySet()));
        due.is("an object is not used for more calls than promised", calls <= MOST_CALLS);
        due.is("it says how to run the tests",
                Files.readString(Path.of("README.md")).contains(".ci/run"));
        everyTestIsListed();
        due.end();
    }

    private static void follow(String line) throws ReflectiveOperationException {
        Matcher text = TEXT.matcher(line);
        if (text.find()) {
            for (char letter : text.group(1).toCharArray()) {
                x.feed(letter);
                calls++;
            }
            return;
        }
        if (line.contains("x.feed(text.charAt(i));")) {
            shown.add("feed");
            return;
        }
        Matcher call = CALL.matcher(line);
        if (!call.matches()) {
            due.is("a call with its answer: " + line, !line.contains("x."));
            return;
        }
        Method m = face.get(call.group(1));
        due.is("a call of the face: " + line, m != null);
        if (m != null) {
            shown.add(m.getName());
            calls++;
            String answer = call.group(3);
            long want = NAMES.containsKey(answer) ? NAMES.get(answer) : Long.parseLong(answer);
            due.is(line, ((Number) m.invoke(x, numbers(call.group(2)))).longValue(), want);
        }
    }

    private static Object[] numbers(String given) {
        if (given.isBlank()) {
            return new Object[0];
        }
        return Arrays.stream(given.split(",")).map(n -> Integer.valueOf(n.strip())).toArray();
    }

    private static void everyTestIsListed() throws IOException {
        String readme = Files.readString(Path.of("README.md"));
        try (var files = Files.list(Path.of("src/test/java"))) {
            List<String> tests = files.map(f -> f.getFileName().toString())
                    .filter(f -> f.endsWith("Test.java")).map(f -> f.replace(".java", "")).toList();
            for (String test : tests) {
                due.is(test + " is in its list", readme.contains("`" + test + "`"));
            }
        }
    }
}
