import java.io.IOException;
import java.lang.reflect.Method;
import java.lang.reflect.Modifier;
import java.nio.file.Files;
import java.nio.file.Path;
import java.util.List;
import java.util.regex.Matcher;
import java.util.regex.Pattern;

/** What README.md says of the class: its examples answer what stands behind them, and it names every call. */
public final class ReadmeTest {
    private static final Pattern NEW = Pattern.compile("SealedPages image = new SealedPages\\((-?\\d+)\\);.*");
    private static final Pattern CALL = Pattern.compile("image\\.(\\w+)\\(([^)]*)\\); *// (-?\\d+)(:.*)?");
    private static final Checks CHECKS = new Checks("ReadmeTest");

    public static void main(String[] args) throws IOException, ReflectiveOperationException {
        List<String> lines = Files.readAllLines(Path.of("README.md"));
        examplesAnswerAsTold(lines);
        everyCallIsNamed(String.join("\n", lines));
        CHECKS.end();
    }

    private static void examplesAnswerAsTold(List<String> lines) throws ReflectiveOperationException {
        SealedPages image = null;
        boolean code = false;
        for (String line : lines) {
            Matcher made = NEW.matcher(line);
            Matcher call = CALL.matcher(line);
            if (line.startsWith("```")) {
                code = line.equals("```java");
            } else if (code && made.matches()) {
                image = new SealedPages(Integer.parseInt(made.group(1)));
            } else if (code && call.matches()) {
                CHECKS.due(line, answer(image, call.group(1), call.group(2)), Integer.parseInt(call.group(3)));
            } else if (code) {
                CHECKS.due("a line that is no example: " + line, 0, 1);
            }
        }
    }

    private static int answer(SealedPages image, String name, String arguments) throws ReflectiveOperationException {
        String[] texts = arguments.isEmpty() ? new String[0] : arguments.split(", ");
        Class<?>[] types = new Class<?>[texts.length];
        Object[] values = new Object[texts.length];
        for (int i = 0; i < texts.length; i++) {
            boolean wide = texts[i].endsWith("L");
            types[i] = wide ? long.class : int.class;
            if (wide) {
                values[i] = Long.parseLong(texts[i].substring(0, texts[i].length() - 1));
            } else {
                values[i] = Integer.parseInt(texts[i]);
            }
        }
        return (int) SealedPages.class.getMethod(name, types).invoke(image, values);
    }

    private static void everyCallIsNamed(String text) {
        for (Method m : SealedPages.class.getDeclaredMethods()) {
            if (Modifier.isPublic(m.getModifiers())) {
                CHECKS.due("README.md names " + m.getName(), text.contains(m.getName() + "(") ? 1 : 0, 1);
            }
        }
    }
}
