import java.io.IOException;
import java.lang.reflect.InvocationTargetException;
import java.lang.reflect.Method;
import java.lang.reflect.Modifier;
import java.nio.file.Files;
import java.nio.file.Path;
import java.util.Set;
import java.util.TreeSet;
import java.util.regex.Matcher;
import java.util.regex.Pattern;

/** The examples of README.md: each call there answers the number that stands behind it. */
public final class ReadmeTest {
    private static final Pattern BLOCK = Pattern.compile("(?s)```java\n(.*?)```");
    private static final Pattern CALL = Pattern.compile("x\\.(\\w+)\\((.*)\\);\\s+// (-?\\d+)\\b.*");

    public static void main(String[] args)
            throws IOException, IllegalAccessException, InvocationTargetException {
        int wrong = 0;
        Set<String> shown = new TreeSet<>();
        Matcher block = BLOCK.matcher(Files.readString(Path.of("README.md")));
        while (block.find()) {
            EvenScatter x = null;
            for (String line : block.group(1).split("\n")) {
                if (line.equals("EvenScatter x = new EvenScatter();")) {
                    x = new EvenScatter();
                } else if (!line.isEmpty()) {
                    wrong += holds(x, line, shown) ? 0 : 1;
                }
            }
        }
        for (Method m : EvenScatter.class.getDeclaredMethods()) {
            if (Modifier.isPublic(m.getModifiers()) && !shown.contains(m.getName())) {
                wrong++;
                System.out.println("README.md does not show " + m.getName());
            }
        }
        System.out.println(wrong == 0 ? "README.md shows what the class does" : wrong + " faults in README.md");
        if (wrong != 0) {
            System.exit(1);
        }
    }

    private static boolean holds(EvenScatter x, String line, Set<String> shown)
            throws IllegalAccessException, InvocationTargetException {
        Matcher call = CALL.matcher(line);
        if (x == null || !call.matches()) {
            System.out.println("not a call with its answer: " + line);
            return false;
        }
        shown.add(call.group(1));
        long got = answer(x, call.group(1), call.group(2).split(", "));
        if (got != Long.parseLong(call.group(3))) {
            System.out.println("answered " + got + ": " + line);
            return false;
        }
        return true;
    }

    private static long answer(EvenScatter x, String name, String[] words)
            throws IllegalAccessException, InvocationTargetException {
        for (Method m : EvenScatter.class.getDeclaredMethods()) {
            Class<?>[] types = m.getParameterTypes();
            if (m.getName().equals(name) && types.length == words.length) {
                Object[] values = new Object[words.length];
                for (int i = 0; i < words.length; i++) {
                    values[i] = valueOf(types[i], words[i]);
                }
                return ((Number) m.invoke(x, values)).longValue();
            }
        }
        throw new IllegalArgumentException("no such call: " + name);
    }

    private static Object valueOf(Class<?> type, String word) {
        if (type == int.class) {
            return Integer.decode(word);
        }
        return type == long.class ? (Object) Long.decode(word.replace("L", "")) : (Object) Boolean.valueOf(word);
    }
}
