import java.io.IOException;
import java.lang.reflect.Field;
import java.lang.reflect.InvocationTargetException;
import java.lang.reflect.Method;
import java.lang.reflect.Modifier;
import java.nio.charset.StandardCharsets;
import java.nio.file.Files;
import java.nio.file.Path;
import java.util.regex.Matcher;
import java.util.regex.Pattern;

/** README.md: the calls that it shows answer what it says, and it tells of every call and every constant. */
public final class ReadmeTest {
    private static final Due DUE = new Due();
    private static final Pattern EXAMPLE = Pattern.compile("(?s)```java\n(.*?)```");
    private static final Pattern CALL = Pattern.compile("pump\\.(\\w+)\\((.*?)\\); +// (-?[\\d.]+)\\b.*");
    private static final Pattern TEXT = Pattern.compile("for \\(char sign : \"(.*)\"\\.toCharArray.*");

    public static void main(String[] args) throws IOException, ReflectiveOperationException {
        String readme = Files.readString(Path.of("README.md"), StandardCharsets.UTF_8);
        example(readme);
        tellsOfAll(readme);
        DUE.finish("ReadmeTest");
    }

    private static void example(String readme) throws ReflectiveOperationException {
        Matcher example = EXAMPLE.matcher(readme);
        DUE.is("an example is there", example.find(), true);
        JokePump pump = new JokePump();
        String[] rows = example.group(1).split("\n");
        DUE.is("the first row", rows[0], "JokePump pump = new JokePump();");
        for (int i = 1; i < rows.length; i++) {
            row(pump, rows[i]);
        }
        DUE.is("jokes behind the example", pump.account(0), 1);
    }

    private static void row(JokePump pump, String row) throws ReflectiveOperationException {
        Matcher text = TEXT.matcher(row);
        Matcher call = CALL.matcher(row);
        if (text.matches()) {
            for (char sign : text.group(1).toCharArray()) {
                pump.append(sign);
            }
        } else if (call.matches()) {
            DUE.is(row, answer(pump, call.group(1), call.group(2)), call.group(3));
        } else {
            DUE.is("can be done: " + row, false, true);
        }
    }

    private static String answer(JokePump pump, String name, String words)
            throws IllegalAccessException, InvocationTargetException {
        Method method = methodOf(name);
        Class<?>[] types = method.getParameterTypes();
        String[] parts = words.isEmpty() ? new String[0] : words.split(", ");
        Object[] values = new Object[parts.length];
        for (int i = 0; i < parts.length; i++) {
            values[i] = types[i] == boolean.class ? (Object) Boolean.valueOf(parts[i]) : Integer.valueOf(parts[i]);
        }
        return String.valueOf(method.invoke(pump, values));
    }

    private static Method methodOf(String name) {
        for (Method method : JokePump.class.getDeclaredMethods()) {
            if (method.getName().equals(name)) {
                return method;
            }
        }
        throw new IllegalArgumentException(name);
    }

    private static void tellsOfAll(String readme) throws IllegalAccessException {
        String tables = readme.substring(readme.indexOf("### The calls"));
        for (Method method : JokePump.class.getDeclaredMethods()) {
            if (Modifier.isPublic(method.getModifiers())) {
                int commas = Math.max(0, method.getParameterCount() - 1);
                String empty = method.getParameterCount() == 0 ? "" : "\\w+(?:, \\w+){" + commas + "}";
                boolean isTold = Pattern.compile("`" + method.getName() + "\\(" + empty + "\\)`").matcher(tables).find();
                DUE.is(method.getName() + " is told", isTold, true);
            }
        }
        for (Field field : JokePump.class.getDeclaredFields()) {
            if (Modifier.isPublic(field.getModifiers())) {
                String row = "`" + field.getName() + "`, " + field.getInt(null) + " |";
                DUE.is(field.getName() + " is told", tables.contains(row), true);
            }
        }
    }
}
