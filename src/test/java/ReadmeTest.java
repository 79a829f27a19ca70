import java.io.IOException;
import java.lang.reflect.Field;
import java.lang.reflect.Method;
import java.lang.reflect.Modifier;
import java.nio.file.Files;
import java.nio.file.Path;
import java.util.regex.Matcher;
import java.util.regex.Pattern;

/** README.md: its examples answer what they say, and no call or constant is left out. */
public final class ReadmeTest {
    private static final Pattern CALL =
        Pattern.compile("x\\.(\\w+)\\(([^)]*)\\); +// (-?\\d+)(:.*)?");

    private static final Due due = new Due("README.md: ");

    public static void main(String[] args) throws ReflectiveOperationException, IOException {
        String readme = Files.readString(Path.of("README.md"));
        examples(readme);
        for (Method method : KeyGraves.class.getDeclaredMethods()) {
            if (Modifier.isPublic(method.getModifiers())) {
                String row = "\n\\| `" + method.getName() + "\\((\\w+(, \\w+)*)?\\)` \\|";
                Matcher matcher = Pattern.compile(row).matcher(readme);
                boolean stands = matcher.find();
                due.is("a row for " + method.getName(), stands ? 1 : 0, 1);
                int parameters = !stands || matcher.group(1) == null
                    ? 0 : matcher.group(1).split(",").length;
                due.is("parameters of " + method.getName(), parameters, method.getParameterCount());
            }
        }
        for (Field field : KeyGraves.class.getFields()) {
            String row = "\n| `" + field.getName() + "` | " + field.getInt(null) + " |";
            due.is("a row for " + field.getName(), readme.contains(row) ? 1 : 0, 1);
        }
        due.end();
    }

    private static void examples(String readme) throws ReflectiveOperationException {
        KeyGraves x = null;
        int calls = 0;
        for (String line : readme.split("\n")) {
            if (line.equals("KeyGraves x = new KeyGraves();")) {
                x = new KeyGraves();
            } else if (line.startsWith("x.")) {
                Matcher matcher = CALL.matcher(line);
                due.is(line + " is a call with its answer", matcher.matches() ? 1 : 0, 1);
                if (matcher.matches()) {
                    due.is(line, answer(x, matcher.group(1), matcher.group(2)),
                        Integer.parseInt(matcher.group(3)));
                    calls++;
                }
            }
        }
        due.is("there are calls in the examples: 1", calls > 0 ? 1 : 0, 1);
    }

    private static int answer(KeyGraves x, String name, String list)
            throws ReflectiveOperationException {
        String[] words = list.isEmpty() ? new String[0] : list.split(", ");
        for (Method method : KeyGraves.class.getMethods()) {
            if (method.getName().equals(name) && method.getParameterCount() == words.length) {
                Object[] arguments = new Object[words.length];
                for (int i = 0; i < words.length; i++) {
                    arguments[i] = argument(words[i]);
                }
                return (Integer) method.invoke(x, arguments);
            }
        }
        throw new NoSuchMethodException(name);
    }

    private static Object argument(String word) {
        if (word.startsWith("'")) {
            return word.charAt(1);
        }
        if (word.equals("true") || word.equals("false")) {
            return word.equals("true");
        }
        return Integer.valueOf(word);
    }
}
