import java.lang.reflect.Field;
import java.lang.reflect.Method;
import java.lang.reflect.Modifier;
import java.nio.file.Files;
import java.nio.file.Path;
import java.util.Arrays;
import java.util.List;
import java.util.TreeSet;
import java.util.regex.Matcher;
import java.util.regex.Pattern;

/** The public face, and those rules of LANGUAGE.md that can be looked at from outside. */
public final class LanguageTest {
    private static final Due DUE = new Due("LanguageTest");

    private static final List<String> FACE = List.of(
        "feed(int)", "night()", "candle(int,int)", "put(int,int)", "light(int,boolean)", "draught(int,int)",
        "owe(int,int,int)", "debt(int,int)", "go(int)", "behind(int,int)", "owes(int,int,int)", "reads(int,int)",
        "ends(int)", "clearBy()", "dark(int)", "best(int,int)", "pour(int,int,int,int)", "strike()", "owed(int)",
        "cheat(int,int,int,int,int)", "dripped(int,int,int,int)", "row(int)", "judge()", "seeds(int,int)", "image()",
        "restore()", "count(int)");

    private static final List<String> FORBIDDEN = List.of(
        "throw", "throws", "try", "catch", "synchronized", "assert", "import", "package", "->", "::", "protected",
        "volatile", "transient", "native", "hashCode", "toString", "getClass", "Object", "Random", "Thread", "Exact",
        "currentTimeMillis", "nanoTime", "getenv", "@");

    public static void main(String[] args) throws Exception {
        face();
        members(PaidInLight.class);
        source();
        layout();
        DUE.end();
    }

    private static void face() {
        TreeSet<String> found = new TreeSet<>();
        TreeSet<String> names = new TreeSet<>();
        for (Method m : PaidInLight.class.getDeclaredMethods()) {
            if (!Modifier.isPrivate(m.getModifiers())) {
                found.add(signature(m));
                names.add(m.getName());
                DUE.is("1 public " + m, Modifier.isPublic(m.getModifiers()) ? 1 : 0, 1);
                DUE.is("1 int " + m, m.getReturnType() == int.class ? 1 : 0, 1);
            }
        }
        DUE.is("1 the face is " + found, found.equals(new TreeSet<>(FACE)) ? 1 : 0, 1);
        for (Method m : PaidInLight.class.getDeclaredMethods()) {
            boolean shadows = Modifier.isPrivate(m.getModifiers()) && names.contains(m.getName());
            DUE.is("1 private name " + m, shadows ? 1 : 0, 0);
        }
        DUE.is("1 final", Modifier.isFinal(PaidInLight.class.getModifiers()) ? 1 : 0, 1);
        DUE.is("1 one constructor", PaidInLight.class.getDeclaredConstructors().length, 1);
    }

    private static String signature(Method m) {
        StringBuilder s = new StringBuilder(m.getName()).append('(');
        for (Class<?> type : m.getParameterTypes()) {
            s.append(s.charAt(s.length() - 1) == '(' ? "" : ",").append(type.getName());
        }
        return s.append(')').toString();
    }

    private static void members(Class<?> type) {
        int own = 0;
        for (Field f : type.getDeclaredFields()) {
            boolean isStatic = Modifier.isStatic(f.getModifiers());
            own += isStatic ? 0 : 1;
            DUE.is("5 static and not final " + f, isStatic && !Modifier.isFinal(f.getModifiers()) ? 1 : 0, 0);
            if (type == PaidInLight.class) {
                DUE.is("1 private " + f, Modifier.isPrivate(f.getModifiers()) ? 1 : 0, 1);
            }
        }
        DUE.is("11 fields of " + type, own <= 20 ? 1 : 0, 1);
        for (Method m : type.getDeclaredMethods()) {
            DUE.is("11 parameters of " + m, m.getParameterCount() <= 7 ? 1 : 0, 1);
            DUE.is("2 made by the compiler " + m, m.isSynthetic() ? 1 : 0, 0);
        }
        Class<?>[] inside = type.getDeclaredClasses();
        DUE.is("11 classes", inside.length <= 11 ? 1 : 0, 1);
        Arrays.stream(inside).forEach(c -> {
            DUE.is("2 static " + c, Modifier.isStatic(c.getModifiers()) ? 1 : 0, 1);
            members(c);
        });
    }

    private static void source() throws Exception {
        String all = Files.readString(Path.of("src/main/java/PaidInLight.java"));
        String code = all.replaceAll("(?s)/\\*.*?\\*/", "").replaceAll("//.*", "").replaceAll("'.'", "0");
        for (String word : FORBIDDEN) {
            boolean isName = Character.isLetter(word.charAt(0));
            Matcher m = Pattern.compile(isName ? "\\b" + word + "\\b" : Pattern.quote(word)).matcher(code);
            DUE.is("4, 6 has " + word, m.find() ? 1 : 0, 0);
        }
        Matcher library = Pattern.compile("\\b(Math|System|Integer|Long|Arrays)\\.(\\w+)").matcher(code);
        while (library.find()) {
            boolean listed = List.of("Math.min", "Math.max", "System.arraycopy").contains(library.group());
            DUE.is("4 uses " + library.group(), listed ? 1 : 0, 1);
        }
    }

    /** Methods stay short, signs are 1 to 127, and objects are made in constructors alone, so that the room holds. */
    private static void layout() throws Exception {
        List<String> lines = Files.readAllLines(Path.of("src/main/java/PaidInLight.java"));
        Pattern head = Pattern.compile("( {4}| {8})(?!.*\\bclass\\b)[A-Za-z].*\\) \\{");
        String method = "";
        String indent = "";
        int started = 0;
        for (int i = 0; i < lines.size(); i++) {
            String line = lines.get(i);
            DUE.is("4 signs of line " + (i + 1), line.chars().allMatch(c -> c >= 1 && c <= 127) ? 1 : 0, 1);
            Matcher m = head.matcher(line);
            if (method.isEmpty() && m.matches()) {
                method = line.trim();
                indent = m.group(1);
                started = i;
            }
            boolean constructs = method.matches("(public PaidInLight|House)\\(.*");
            boolean makes = !method.isEmpty() && !constructs && line.matches(".*\\bnew\\b.*");
            DUE.is("12 makes something: line " + (i + 1), makes ? 1 : 0, 0);
            if (!method.isEmpty() && line.equals(indent + "}")) {
                DUE.is("11 length of " + method, i - started < 60 ? 1 : 0, 1);
                method = "";
            }
        }
        DUE.is("11 the last method has an end: " + method, method.isEmpty() ? 1 : 0, 1);
    }
}
