import java.lang.reflect.Method;
import java.lang.reflect.Modifier;
import java.nio.charset.StandardCharsets;
import java.nio.file.Files;
import java.nio.file.Path;
import java.util.List;
import java.util.TreeSet;
import java.util.regex.Matcher;
import java.util.regex.Pattern;

/** README.md, read from the directory of the project: its calls, in their order, answer as it says. */
public final class ReadmeTest {
    private static final Pattern CALL = Pattern.compile("court\\.(\\w+)\\((.*)\\); +// (-?\\d+).*");
    private static final Pattern NAME = Pattern.compile("`(\\w+)`");
    private static final Due DUE = new Due();

    public static void main(String[] args) throws Exception {
        List<String> lines = Files.readAllLines(Path.of("README.md"), StandardCharsets.US_ASCII);
        DUE.is("calls that README.md makes", 36, makeCalls(lines));
        tableNamesEveryCall(lines);
        DUE.end();
    }

    private static int makeCalls(List<String> lines) throws Exception {
        BookOfWills court = new BookOfWills();
        int made = 0;
        for (String line : lines) {
            Matcher call = CALL.matcher(line);
            boolean isCall = call.matches();
            DUE.is("a call that can't be read: " + line, line.startsWith("court.") ? 1 : 0, isCall ? 1 : 0);
            if (isCall) {
                DUE.is(line, Long.parseLong(call.group(3)), answer(court, call.group(1), call.group(2)));
                made++;
            }
        }
        return made;
    }

    private static long answer(BookOfWills court, String name, String numbers) throws Exception {
        String[] texts = numbers.isEmpty() ? new String[0] : numbers.split(", ");
        Method method = methodOf(name);
        Object[] values = new Object[texts.length];
        for (int i = 0; i < texts.length; i++) {
            long v = Long.decode(texts[i].replace("L", ""));
            boolean isLong = method.getParameterTypes()[i] == long.class;
            values[i] = isLong ? (Object) v : (Object) Math.toIntExact(v);
        }
        return ((Number) method.invoke(court, values)).longValue();
    }

    private static Method methodOf(String name) {
        for (Method method : BookOfWills.class.getDeclaredMethods()) {
            if (Modifier.isPublic(method.getModifiers()) && method.getName().equals(name)) {
                return method;
            }
        }
        throw new IllegalStateException("README.md names a call that there is not: " + name);
    }

    /** Of a row of the table of refusals, the first column names calls. */
    private static void tableNamesEveryCall(List<String> lines) {
        TreeSet<String> named = new TreeSet<>();
        for (String line : lines.subList(lines.indexOf("| calls | refuse with |"), lines.indexOf("## Tests"))) {
            Matcher names = NAME.matcher(line.startsWith("|") ? line.split("\\|")[1] : "");
            while (names.find()) {
                DUE.is("the table names twice: " + names.group(1), 1, named.add(names.group(1)) ? 1 : 0);
            }
        }
        TreeSet<String> calls = new TreeSet<>();
        for (Method method : BookOfWills.class.getDeclaredMethods()) {
            if (Modifier.isPublic(method.getModifiers())) {
                calls.add(method.getName());
            }
        }
        DUE.is("due are " + calls + ", the table names " + named, 1, calls.equals(named) ? 1 : 0);
    }
}
