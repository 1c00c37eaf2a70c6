import java.io.IOException;
import java.lang.reflect.Method;
import java.nio.file.Files;
import java.nio.file.Path;
import java.util.Arrays;
import java.util.regex.Matcher;
import java.util.regex.Pattern;

/** The example of README.md: each call answers what stands behind it, and each call of the face is named. */
public final class ReadmeTest {
    private static final Pattern TEXT = Pattern.compile("for \\(char c : \"([^\"]*)\"");
    private static final Pattern CALL = Pattern.compile("(?m)^x\\.(\\w+)\\(([^)]*)\\);\\s*// (-?\\d+):");
    private static final Pattern ANY_CALL = Pattern.compile("(?m)^x\\.");
    private static final Check check = new Check();

    public static void main(String[] args) throws Exception {
        String readme = readme();
        example(readme);
        for (Method m : DayCubes.class.getDeclaredMethods()) {
            if (java.lang.reflect.Modifier.isPublic(m.getModifiers())) {
                check.holds("README.md names " + m.getName(), readme.contains("`" + m.getName() + "`"));
            }
        }
        check.end();
    }

    private static String readme() throws IOException {
        return Files.readString(Path.of("README.md"));
    }

    private static void example(String readme) throws Exception {
        Matcher text = TEXT.matcher(readme);
        check.holds("there is a text", text.find());
        DayCubes x = new DayCubes();
        Check.typeAll(x, text.group(1));
        int calls = 0;
        Matcher call = CALL.matcher(readme);
        while (call.find()) {
            calls++;
            long got = answer(x, call.group(1), call.group(2));
            check.due(call.group().trim(), got, Long.parseLong(call.group(3)));
        }
        check.due("calls with an answer behind them", calls, ANY_CALL.matcher(readme).results().count());
        check.holds("there are some", calls > 0);
    }

    private static long answer(DayCubes x, String name, String list) throws Exception {
        Object[] given = Arrays.stream(list.split(",")).map(String::trim).filter(s -> !s.isEmpty())
            .map(Integer::valueOf).toArray();
        Class<?>[] types = new Class<?>[given.length];
        Arrays.fill(types, int.class);
        Method method = DayCubes.class.getMethod(name, types);
        return ((Number) method.invoke(x, given)).longValue();
    }
}
