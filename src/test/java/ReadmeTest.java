import java.io.IOException;
import java.lang.reflect.Field;
import java.lang.reflect.InvocationTargetException;
import java.lang.reflect.Method;
import java.lang.reflect.Modifier;
import java.nio.file.Files;
import java.nio.file.Path;
import java.util.ArrayList;
import java.util.List;
import java.util.TreeSet;
import java.util.regex.Matcher;
import java.util.regex.Pattern;

/** The example of README.md: its calls are done as they stand there, and must answer what stands behind them. */
public final class ReadmeTest {
    private static final Pattern LINE = Pattern.compile("x\\.(\\w+)\\(([^)]*)\\); +// ([-\\w]+).*");
    private static final int AT_MOST = 512;

    public static void main(String[] args) throws IOException, ReflectiveOperationException {
        String readme = Files.readString(Path.of("README.md"));
        TreeSet<String> called = example(readme);
        everyCall(readme, called);
        everyAnswer(readme);
        Due.end();
    }

    private static TreeSet<String> example(String readme) throws ReflectiveOperationException {
        Due.sentence("README.md", "Each line here tells what the call answers");
        List<String> lines = block(readme);
        Due.isTrue(!lines.isEmpty() && lines.get(0).equals("MappingMoves x = new MappingMoves();"), "it begins with a new object");
        Due.isTrue(lines.size() <= AT_MOST, "it has more calls than an object is used for");
        TreeSet<String> called = new TreeSet<>();
        MappingMoves x = new MappingMoves();
        for (int k = 1; k < lines.size(); k++) {
            Matcher line = LINE.matcher(lines.get(k));
            Due.isTrue(line.matches(), "a call and its answer: " + lines.get(k));
            if (line.matches()) {
                called.add(line.group(1));
                Due.same(lines.get(k) + " answers " + answer(x, line.group(1), line.group(2)), lines.get(k) + " answers " + line.group(3));
            }
        }
        return called;
    }

    private static List<String> block(String readme) {
        List<String> lines = new ArrayList<>();
        boolean inside = false;
        for (String line : readme.split("\n")) {
            if (line.startsWith("```")) {
                inside = line.equals("```java");
            } else if (inside) {
                lines.add(line);
            }
        }
        return lines;
    }

    private static String answer(MappingMoves x, String name, String arguments) throws ReflectiveOperationException {
        String[] words = arguments.isEmpty() ? new String[0] : arguments.split(", ");
        for (Method method : MappingMoves.class.getDeclaredMethods()) {
            if (Modifier.isPublic(method.getModifiers()) && method.getName().equals(name) && method.getParameterCount() == words.length) {
                return invoked(method, x, words);
            }
        }
        return "that there is no such call";
    }

    private static String invoked(Method method, MappingMoves x, String[] words) throws ReflectiveOperationException {
        Object[] values = new Object[words.length];
        for (int k = 0; k < words.length; k++) {
            long value = Long.decode(words[k]);
            if (method.getParameterTypes()[k] == int.class) {
                values[k] = Math.toIntExact(value);
            } else {
                values[k] = value;
            }
        }
        try {
            return String.valueOf(method.invoke(x, values));
        } catch (InvocationTargetException e) {
            return e.getCause().getClass().getSimpleName();
        }
    }

    private static void everyCall(String readme, TreeSet<String> called) {
        Due.sentence("README.md", "| call | what it does |");
        for (Method method : MappingMoves.class.getDeclaredMethods()) {
            if (Modifier.isPublic(method.getModifiers())) {
                Due.isTrue(called.contains(method.getName()), "the example has no " + method.getName());
                Due.isTrue(readme.contains("`" + method.getName() + "("), "the table has no " + method.getName());
            }
        }
    }

    private static void everyAnswer(String readme) throws IllegalAccessException {
        Due.sentence("README.md", "| answer | what was in the way |");
        for (Field field : MappingMoves.class.getDeclaredFields()) {
            if (Modifier.isPublic(field.getModifiers())) {
                String row = "| `" + field.getName() + "` " + field.getInt(null) + " |";
                Due.isTrue(readme.contains(row), "the table has no row " + row);
            }
        }
    }
}
