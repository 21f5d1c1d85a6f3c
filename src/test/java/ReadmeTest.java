import java.io.IOException;
import java.lang.reflect.Method;
import java.lang.reflect.Modifier;
import java.nio.file.Files;
import java.nio.file.Path;
import java.util.Arrays;
import java.util.regex.Matcher;
import java.util.regex.Pattern;

/** README.md says how to use the class: it names every call, and its calls answer what stands behind them. */
public final class ReadmeTest {
    private static final Pattern CALL = Pattern.compile("halls\\.(\\w+)\\(([^)]*)\\); +// ([^:\\s]+)(:.*)?");
    private static final Due due = new Due();

    public static void main(String[] args) throws IOException, ReflectiveOperationException {
        String readme = Files.readString(Path.of("README.md"));
        namesEveryCall(readme);
        FruitHalls halls = new FruitHalls();
        int calls = 0;
        for (String line : readme.split("\n")) {
            if (line.startsWith("halls.")) {
                isSo(halls, line);
                calls++;
            }
        }
        due.yes("README.md has calls", calls > 0);
        due.finish("ReadmeTest");
    }

    private static void namesEveryCall(String readme) {
        for (Method method : FruitHalls.class.getDeclaredMethods()) {
            if (Modifier.isPublic(method.getModifiers())) {
                due.yes("README.md names " + method.getName(), readme.contains("`" + method.getName() + "("));
            }
        }
    }

    private static void isSo(FruitHalls halls, String line) throws ReflectiveOperationException {
        Matcher call = CALL.matcher(line);
        if (!call.matches()) {
            due.yes("'" + line + "' is a call with its answer", false);
            return;
        }
        String answer = String.valueOf(answer(halls, call.group(1), call.group(2)));
        due.yes("'" + line + "' (it answers " + answer + ") is so", answer.equals(call.group(3)));
    }

    private static Object answer(FruitHalls halls, String name, String written) throws ReflectiveOperationException {
        String[] numbers = written.isEmpty() ? new String[0] : written.split(", ");
        Class<?>[] types = new Class<?>[numbers.length];
        Arrays.fill(types, int.class);
        Object[] values = new Object[numbers.length];
        for (int i = 0; i < numbers.length; i++) {
            values[i] = Integer.decode(numbers[i]);
        }
        return FruitHalls.class.getMethod(name, types).invoke(halls, values);
    }
}
