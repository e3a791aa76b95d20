import java.io.IOException;
import java.lang.reflect.InvocationTargetException;
import java.lang.reflect.Method;
import java.lang.reflect.Modifier;
import java.nio.charset.StandardCharsets;
import java.nio.file.Files;
import java.nio.file.Paths;
import java.util.HashSet;
import java.util.Set;
import java.util.regex.Matcher;
import java.util.regex.Pattern;

/** The examples of README.md: each call answers what its comment begins with. */
public final class ReadmeTest {
    private static final Pattern CALL = Pattern.compile("x\\.(\\w+)\\(([^)]*)\\);\\s*// (-?\\d+|throws)(:.*)?");

    public static void main(String[] args) throws IOException, ReflectiveOperationException {
        ErrorNames x = new ErrorNames();
        boolean inside = false;
        int calls = 0;
        String text = new String(Files.readAllBytes(Paths.get("README.md")), StandardCharsets.UTF_8);
        for (String line : text.split("\n")) {
            if (line.startsWith("```")) {
                inside = line.equals("```java");
            } else if (inside && line.equals("ErrorNames x = new ErrorNames();")) {
                x = new ErrorNames();
            } else if (inside) {
                Matcher call = CALL.matcher(line);
                Bench.due(line + ": a call with its answer", call.matches(), true);
                if (call.matches()) {
                    calls++;
                    Bench.due(line, answer(x, call.group(1), call.group(2)), call.group(3));
                }
            }
        }
        Bench.due("examples were found", calls > 0, true);
        everyCallIsTold(text);
        Bench.end("ReadmeTest");
    }

    private static String answer(ErrorNames x, String name, String arguments) throws ReflectiveOperationException {
        String[] texts = arguments.isEmpty() ? new String[0] : arguments.split(", ");
        Object[] numbers = new Object[texts.length];
        Class<?>[] types = new Class<?>[texts.length];
        for (int i = 0; i < texts.length; i++) {
            numbers[i] = Integer.valueOf(texts[i]);
            types[i] = int.class;
        }
        try {
            return String.valueOf(ErrorNames.class.getMethod(name, types).invoke(x, numbers));
        } catch (InvocationTargetException e) {
            return e.getCause().getClass() == IndexOutOfBoundsException.class ? "throws" : e.getCause().toString();
        }
    }

    private static void everyCallIsTold(String text) {
        Set<String> told = new HashSet<>();
        Matcher row = Pattern.compile("`(\\w+)\\(").matcher(text);
        while (row.find()) {
            told.add(row.group(1));
        }
        for (Method method : ErrorNames.class.getDeclaredMethods()) {
            if (Modifier.isPublic(method.getModifiers())) {
                Bench.due("README.md tells of " + method.getName(), told.contains(method.getName()), true);
            }
        }
    }
}
