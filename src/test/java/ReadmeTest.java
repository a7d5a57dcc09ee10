import java.io.IOException;
import java.lang.reflect.InvocationTargetException;
import java.lang.reflect.Method;
import java.lang.reflect.Modifier;
import java.nio.file.Files;
import java.nio.file.Path;
import java.util.regex.Matcher;
import java.util.regex.Pattern;

/** What README.md shows holds: its examples are run call by call, and no method is missing in it. */
public final class ReadmeTest {
    private static final Pattern CALL =
        Pattern.compile("simulator\\.(\\w+)\\((.*?)\\);\\s*// (-?\\d+)(:.*)?");

    private static int examples = 0;
    private static SessionSimulator simulator = new SessionSimulator();

    public static void main(String[] args) throws IOException, ReflectiveOperationException {
        String text = Files.readString(Path.of("README.md"));
        boolean isExample = false;
        for (String line : text.split("\n")) {
            if (line.startsWith("```")) {
                isExample = line.equals("```java");
            } else if (isExample) {
                run(line);
            }
        }
        Due.be("README.md has two examples", examples, 2);
        for (Method method : SessionSimulator.class.getDeclaredMethods()) {
            if (Modifier.isPublic(method.getModifiers())) {
                Due.be(method.getName() + " stands in README.md", named(text, method) ? 1 : 0, 1);
            }
        }
        Due.finish("ReadmeTest");
    }

    private static void run(String line) throws IllegalAccessException, InvocationTargetException {
        if (line.equals("SessionSimulator simulator = new SessionSimulator();")) {
            simulator = new SessionSimulator();
            examples++;
            return;
        }
        Matcher call = CALL.matcher(line);
        Due.be("README.md tells a call and its answer: " + line, call.matches() ? 1 : 0, 1);
        if (call.matches()) {
            String[] words = call.group(2).isEmpty() ? new String[0] : call.group(2).split(", ");
            Object[] numbers = new Object[words.length];
            for (int i = 0; i < words.length; i++) {
                numbers[i] = numberOf(words[i]);
            }
            int answer = (Integer) method(call.group(1)).invoke(simulator, numbers);
            Due.be("README.md: " + line, answer, Integer.parseInt(call.group(3)));
        }
    }

    private static int numberOf(String word) {
        return word.startsWith("'") ? word.charAt(1) : Integer.parseInt(word);
    }

    private static Method method(String name) {
        for (Method method : SessionSimulator.class.getDeclaredMethods()) {
            if (method.getName().equals(name) && Modifier.isPublic(method.getModifiers())) {
                return method;
            }
        }
        throw new IllegalStateException("README.md names no method of the class: " + name);
    }

    /** Named in the table, with as many arguments as it takes. */
    private static boolean named(String text, Method method) {
        Matcher names = Pattern.compile("`" + method.getName() + "\\((.*?)\\)`").matcher(text);
        return names.find()
            && (names.group(1).isEmpty() ? 0 : names.group(1).split(", ").length) == method.getParameterCount();
    }
}
