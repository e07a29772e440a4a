import java.io.IOException;
import java.lang.reflect.InvocationTargetException;
import java.lang.reflect.Method;
import java.nio.file.Files;
import java.nio.file.Path;
import java.util.Set;
import java.util.TreeSet;
import java.util.regex.Matcher;
import java.util.regex.Pattern;

/** Makes the calls of README.md: each answers what stands behind it there, and no call of the face is left out. */
public final class ReadmeTest {
    private static final Pattern BLOCK = Pattern.compile("```java\n(.*?)```", Pattern.DOTALL);
    private static final Pattern CALL = Pattern.compile("x\\.(\\w+)\\((.*)\\); +// (throws \\w+|[-\\d,]+|true|false)(:.*)?");
    private static final Check C = new Check("ReadmeTest");

    public static void main(String[] args) throws IOException, ReflectiveOperationException {
        String page = Files.readString(Path.of(System.getProperty("project", "."), "README.md"));
        Set<String> called = new TreeSet<>();
        Matcher blocks = BLOCK.matcher(page);
        while (blocks.find()) runBlock(blocks.group(1), called);
        for (Method m : BeatBench.class.getDeclaredMethods()) {
            boolean face = java.lang.reflect.Modifier.isPublic(m.getModifiers());
            if (face) C.due("README.md calls " + m.getName(), called.contains(m.getName()), true);
        }
        C.end();
    }

    private static void runBlock(String block, Set<String> called) throws ReflectiveOperationException {
        BeatBench x = new BeatBench();
        for (String line : block.split("\n")) {
            if (line.startsWith("BeatBench x = new BeatBench();")) continue;
            Matcher m = CALL.matcher(line);
            boolean reads = m.matches();
            C.due("README.md has a call and its answer in: " + line, reads, true);
            if (reads) {
                called.add(m.group(1));
                String got = answerOf(x, m.group(1), m.group(2));
                C.due(line + "  <- it answered " + got, got.equals(m.group(3).replace(",", "")), true);
            }
        }
    }

    private static String answerOf(BeatBench x, String name, String words) throws ReflectiveOperationException {
        String[] parts = words.isEmpty() ? new String[0] : words.split(", *");
        Method method = methodNamed(name);
        Class<?>[] types = method.getParameterTypes();
        if (types.length != parts.length) return "nothing: it has " + types.length + " parameters";
        Object[] values = new Object[parts.length];
        for (int k = 0; k < parts.length; k++) values[k] = valueOf(types[k], parts[k]);
        try {
            return String.valueOf(method.invoke(x, values));
        } catch (InvocationTargetException thrown) {
            return "throws " + thrown.getCause().getClass().getSimpleName();
        }
    }

    private static Method methodNamed(String name) throws NoSuchMethodException {
        for (Method m : BeatBench.class.getMethods()) {
            if (m.getName().equals(name)) return m;
        }
        throw new NoSuchMethodException(name);
    }

    private static Object valueOf(Class<?> type, String word) {
        String digits = word.replace("_", "").replaceFirst("L$", "");
        if (type == boolean.class) return Boolean.valueOf(word);
        if (type == long.class) return Long.valueOf(digits);
        return Integer.valueOf(digits);
    }
}
