import java.io.IOException;
import java.lang.reflect.InvocationTargetException;
import java.lang.reflect.Method;
import java.lang.reflect.Modifier;
import java.nio.file.Files;
import java.nio.file.Path;
import java.util.Set;
import java.util.TreeSet;
import java.util.regex.Matcher;
import java.util.regex.Pattern;

/** README.md: its example answers what it says there, and its table names every call. */
public final class ReadmeTest {
    private static final Pattern TYPED = Pattern.compile("\"([^\"]+)\"\\.toCharArray\\(\\)");
    private static final Pattern CALL =
            Pattern.compile("shapes\\.(\\w+)\\(([-0-9, ]*)\\); +// (-?[0-9.]+)\\b.*");
    private static final Pattern ROW = Pattern.compile("(?m)^\\| `(\\w+)\\(([\\w, ]*)\\)` \\|");

    private static int passed = 0;
    private static int failed = 0;

    private static void same(String call, Object is, Object due) {
        if (due.equals(is)) {
            passed++;
        } else {
            failed++;
            System.out.println("README.md, " + call + " answered " + is + ", it says " + due);
        }
    }

    private static Object answer(LearnedShapes shapes, String name, String numbers)
            throws ReflectiveOperationException {
        String[] words = numbers.isBlank() ? new String[0] : numbers.trim().split(", *");
        Class<?>[] types = new Class<?>[words.length];
        Object[] arguments = new Object[words.length];
        for (int i = 0; i < words.length; i++) {
            types[i] = int.class;
            arguments[i] = Integer.valueOf(words[i]);
        }
        return LearnedShapes.class.getMethod(name, types).invoke(shapes, arguments);
    }

    private static void example(String readme) throws ReflectiveOperationException {
        int start = readme.indexOf("```java");
        int end = readme.indexOf("```", start + 3);
        LearnedShapes shapes = new LearnedShapes();
        int calls = 0;
        for (String line : readme.substring(start, end).split("\n")) {
            Matcher typed = TYPED.matcher(line);
            if (typed.find()) {
                for (char c : typed.group(1).toCharArray()) {
                    shapes.append(c);
                }
            }
            Matcher call = CALL.matcher(line.trim());
            if (call.matches()) {
                calls++;
                Object is = answer(shapes, call.group(1), call.group(2));
                same(line.trim(), String.valueOf(is), call.group(3));
            } else if (line.trim().startsWith("shapes.") && !line.contains("append(")) {
                same(line.trim() + ", no answer is told", false, true);
            }
        }
        same("calls of the example, some", calls > 0, true);
    }

    private static void table(String readme) {
        Set<String> told = new TreeSet<>();
        Matcher row = ROW.matcher(readme);
        while (row.find()) {
            int many = row.group(2).isBlank() ? 0 : row.group(2).split(",").length;
            told.add(row.group(1) + "/" + many);
        }
        Set<String> face = new TreeSet<>();
        for (Method method : LearnedShapes.class.getDeclaredMethods()) {
            if (Modifier.isPublic(method.getModifiers())) {
                face.add(method.getName() + "/" + method.getParameterCount());
            }
        }
        same("the calls of its table", told, face);
    }

    public static void main(String[] args) throws IOException, ReflectiveOperationException {
        String readme = Files.readString(Path.of("README.md"));
        try {
            example(readme);
        } catch (InvocationTargetException e) {
            same("the example throws", e.getCause(), "nothing");
        }
        table(readme);
        System.out.println("ReadmeTest: " + passed + " answers as due, " + failed + " not");
        if (failed != 0) {
            System.exit(1);
        }
    }
}
