import java.io.File;
import java.io.IOException;
import java.lang.reflect.Field;
import java.lang.reflect.Method;
import java.lang.reflect.Modifier;
import java.nio.file.Files;
import java.nio.file.Path;
import java.util.HashMap;
import java.util.Map;
import java.util.regex.Matcher;
import java.util.regex.Pattern;

/** README.md: its example answers what stands behind its calls, and no call, constant or test is left out. */
public final class ReadmeTest {
    private static final Due DUE = new Due("ReadmeTest");
    private static final Pattern MADE = Pattern.compile("(?m)^DualParityArray array = new DualParityArray\\((.*)\\);");
    private static final Pattern CALL = Pattern.compile("(?m)^array\\.(\\w+)\\((.*)\\); +// (\\w+).*$");
    private static final Pattern CONSTANT_ROW = Pattern.compile("(?m)^\\| `([A-Z]+)` \\| (-\\d+) \\|");

    public static void main(String[] args) throws IOException, ReflectiveOperationException {
        String readme = Files.readString(Path.of("README.md"));
        Map<String, Method> methods = new HashMap<>();
        for (Method method : DualParityArray.class.getDeclaredMethods()) {
            if (Modifier.isPublic(method.getModifiers())) {
                methods.put(method.getName(), method);
            }
        }
        exampleAnswersAsItSays(readme, methods);
        everyCallHasARow(readme, methods);
        everyConstantHasARow(readme);
        everyTestHasARow(readme);
        DUE.end();
    }

    private static void exampleAnswersAsItSays(String readme, Map<String, Method> methods)
            throws ReflectiveOperationException {
        Matcher made = MADE.matcher(readme);
        DUE.is("the example makes an array", made.find(), true);
        Object[] sizes = numbers(made.group(1));
        DualParityArray array = new DualParityArray((int) sizes[0], (int) sizes[1], (int) sizes[2]);
        Matcher call = CALL.matcher(readme);
        int seen = 0;
        while (call.find()) {
            seen++;
            Object answer = methods.get(call.group(1)).invoke(array, numbers(call.group(2)));
            DUE.is(call.group(), answer.toString(), due(call.group(3)));
        }
        DUE.is("calls of the example", seen, (int) readme.lines().filter(line -> line.startsWith("array.")).count());
        DUE.is("the example has calls", seen > 0, true);
    }

    private static Object[] numbers(String text) {
        return text.isEmpty() ? new Object[0]
            : Pattern.compile(", ").splitAsStream(text).map(Integer::valueOf).toArray();
    }

    private static String due(String word) throws ReflectiveOperationException {
        boolean isConstant = word.matches("[A-Z]+");
        return isConstant ? String.valueOf(DualParityArray.class.getField(word).getInt(null)) : word;
    }

    private static void everyCallHasARow(String readme, Map<String, Method> methods) {
        for (Method method : methods.values()) {
            Matcher row = Pattern.compile("(?m)^\\| `" + method.getName() + "\\((.*?)\\)` \\|").matcher(readme);
            boolean found = row.find();
            DUE.is("row of " + method.getName(), found, true);
            if (found) {
                int parameters = row.group(1).isEmpty() ? 0 : row.group(1).split(", ").length;
                DUE.is("parameters of " + method.getName(), parameters, method.getParameterCount());
            }
        }
    }

    private static void everyConstantHasARow(String readme) throws ReflectiveOperationException {
        Matcher row = CONSTANT_ROW.matcher(readme);
        int rows = 0;
        while (row.find()) {
            rows++;
            Field constant = DualParityArray.class.getField(row.group(1));
            DUE.is(row.group(1), constant.getInt(null), Integer.parseInt(row.group(2)));
        }
        DUE.is("rows of constants", rows, DualParityArray.class.getFields().length);
    }

    private static void everyTestHasARow(String readme) {
        for (File file : new File("src/test/java").listFiles()) {
            String name = file.getName().replace(".java", "");
            String asRow = "| " + name + " |";
            String asHelper = "`" + name + "`";
            DUE.is(name + " stands in README.md", readme.contains(name.endsWith("Test") ? asRow : asHelper), true);
        }
        DUE.is(".ci/run stands in README.md", readme.contains("    .ci/run\n"), true);
    }
}
