import java.io.IOException;
import java.nio.file.Files;
import java.nio.file.Path;
import java.util.Arrays;
import java.util.regex.Matcher;
import java.util.regex.Pattern;

/** The example of README.md, line by line: each call answers the number that stands beside it. */
public final class ReadmeTest {
    private static final Pattern CALL = Pattern.compile("lagoon\\.(\\w+)\\(([-0-9, ]*)\\); +// (-?[0-9]+).*");
    private static final Pattern TYPED = Pattern.compile("for \\(char c : \"([^\"]*)\"\\.toCharArray\\(\\)\\) \\{");
    private static final int LEAST_CALLS = 10;

    private static final Due DUE = new Due("ReadmeTest");

    public static void main(String[] args) throws IOException, ReflectiveOperationException {
        String readme = Files.readString(Path.of("README.md"));
        int start = readme.indexOf("```java\n");
        int end = readme.indexOf("\n```\n", start + 1);
        DUE.holds("there is an example", start >= 0 && end > start);
        if (end > start) {
            DUE.holds("the example has calls", answered(readme.substring(start, end)) >= LEAST_CALLS);
        }
        DUE.end();
    }

    /** Does the example; answers how many calls had a number beside them. */
    private static int answered(String example) throws ReflectiveOperationException {
        LagoonGates lagoon = new LagoonGates();
        int calls = 0;
        for (String line : example.split("\n")) {
            Matcher typed = TYPED.matcher(line);
            if (typed.matches()) {
                Lagoons.type(lagoon, typed.group(1));
            }
            Matcher call = CALL.matcher(line);
            if (call.matches()) {
                DUE.is(line, answer(lagoon, call.group(1), call.group(2)), Integer.parseInt(call.group(3)));
                calls++;
            }
        }
        return calls;
    }

    private static int answer(LagoonGates lagoon, String name, String numbers) throws ReflectiveOperationException {
        Object[] values = numbers.isEmpty() ? new Object[0]
                : Arrays.stream(numbers.split(", *")).map(Integer::valueOf).toArray();
        Class<?>[] types = new Class<?>[values.length];
        Arrays.fill(types, int.class);
        return (Integer) LagoonGates.class.getMethod(name, types).invoke(lagoon, values);
    }
}
