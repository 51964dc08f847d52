import java.lang.reflect.Method;
import java.lang.reflect.Modifier;
import java.nio.file.Files;
import java.nio.file.Path;
import java.util.Arrays;
import java.util.TreeSet;
import java.util.regex.Matcher;
import java.util.regex.Pattern;

/** README.md tells the truth: its example answers what it says, and its table has the whole face. */
public final class ReadmeTest {
    private static final Due DUE = new Due("ReadmeTest");
    private static final Pattern NIGHT = Pattern.compile("String night = \"([^\"]*)\";");
    private static final Pattern CALL = Pattern.compile("(?m)^x\\.(\\w+)\\(([-\\d, ]*)\\); *// (-?\\d+):");
    private static final Pattern TABLE_ROW = Pattern.compile("(?m)^\\| `(\\w+)\\(([\\w, ]*)\\)` \\|");

    public static void main(String[] args) throws Exception {
        String readme = Files.readString(Path.of("README.md"));
        example(readme);
        table(readme);
        DUE.end();
    }

    private static void example(String readme) throws Exception {
        PaidInLight x = new PaidInLight();
        Matcher night = NIGHT.matcher(readme);
        DUE.is("a night is told", night.find() ? 1 : 0, 1);
        for (char letter : night.group(1).toCharArray()) {
            x.feed(letter);
        }
        Matcher call = CALL.matcher(readme);
        int calls = 0;
        while (call.find()) {
            calls++;
            Object[] numbers = numbers(call.group(2));
            Method method = PaidInLight.class.getMethod(call.group(1), ints(numbers.length));
            int got = (int) method.invoke(x, numbers);
            DUE.is(call.group(1) + "(" + call.group(2) + ")", got, Integer.parseInt(call.group(3)));
        }
        int lines = readme.split("(?m)^x\\.", -1).length - 1;
        DUE.is("lines of the example that were called", calls, lines);
        DUE.is("the example has calls", calls > 0 ? 1 : 0, 1);
    }

    private static Object[] numbers(String told) {
        if (told.isEmpty()) {
            return new Object[0];
        }
        String[] parts = told.split(", ");
        Object[] numbers = new Object[parts.length];
        for (int i = 0; i < parts.length; i++) {
            numbers[i] = Integer.valueOf(parts[i]);
        }
        return numbers;
    }

    private static Class<?>[] ints(int length) {
        Class<?>[] types = new Class<?>[length];
        Arrays.fill(types, int.class);
        return types;
    }

    private static void table(String readme) {
        TreeSet<String> face = new TreeSet<>();
        for (Method m : PaidInLight.class.getDeclaredMethods()) {
            if (Modifier.isPublic(m.getModifiers())) {
                face.add(m.getName() + " with " + m.getParameterCount());
            }
        }
        TreeSet<String> told = new TreeSet<>();
        Matcher row = TABLE_ROW.matcher(readme);
        while (row.find()) {
            told.add(row.group(1) + " with " + (row.group(2).isEmpty() ? 0 : row.group(2).split(",").length));
        }
        DUE.is("the table has " + told + ", the face is " + face, told.equals(face) ? 1 : 0, 1);
    }
}
