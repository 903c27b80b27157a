import java.io.IOException;
import java.lang.reflect.Method;
import java.nio.file.Files;
import java.nio.file.Path;
import java.util.regex.Matcher;
import java.util.regex.Pattern;

/** What README.md shows of the class is so: its example answers what it says, and it names each call. Run from the project's folder. */
final class ReadmeTest {
    private static final Due due = new Due("ReadmeTest");
    // A call of the example, and the answer that stands behind it.
    private static final Pattern CALL = Pattern.compile("shelf\\.(\\w+)\\(([^)]*)\\); +// (-?\\d+): .*");

    public static void main(String[] arguments) throws IOException, ReflectiveOperationException {
        String page = Files.readString(Path.of("README.md"));
        SeamReadings shelf = new SeamReadings();
        int calls = 0;
        for (String line : page.split("\n")) {
            Matcher call = CALL.matcher(line);
            if (line.startsWith("shelf.")) {
                due.is("the form of " + line, call.matches() ? 1 : 0, 1);
            }
            if (call.matches()) {
                calls++;
                due.is(line, answer(shelf, call.group(1), call.group(2)), Integer.parseInt(call.group(3)));
            }
        }
        due.is("there is an example", calls > 0 ? 1 : 0, 1);
        for (Method method : SeamReadings.class.getMethods()) {
            if (method.getDeclaringClass() == SeamReadings.class) {
                due.is("README.md names " + method.getName(), page.contains("`" + method.getName() + "(") ? 1 : 0, 1);
            }
        }
        due.end();
    }

    private static int answer(SeamReadings shelf, String name, String numbers) throws ReflectiveOperationException {
        if (name.equals("put")) {
            return shelf.put(Long.decode(numbers.replaceFirst("L$", "")));
        }
        String[] parts = numbers.isEmpty() ? new String[0] : numbers.split(", *");
        Class<?>[] types = new Class<?>[parts.length];
        Object[] values = new Object[parts.length];
        for (int i = 0; i < parts.length; i++) {
            types[i] = int.class;
            values[i] = Integer.valueOf(parts[i]);
        }
        return (Integer) SeamReadings.class.getMethod(name, types).invoke(shelf, values);
    }
}
