import java.io.IOException;
import java.lang.reflect.Array;
import java.lang.reflect.Constructor;
import java.lang.reflect.Field;
import java.lang.reflect.Method;
import java.lang.reflect.Modifier;
import java.nio.file.Files;
import java.nio.file.Path;
import java.util.Arrays;
import java.util.Set;
import java.util.TreeSet;
import java.util.regex.Matcher;
import java.util.regex.Pattern;

/** The face of the class, and what of LANGUAGE.md can be seen in its text. */
public final class LanguageTest {
    private static final String[] FACE = {
        "int table(int, int)", "int row(int, int, int, int)", "int ladder(int)",
        "int direction(int, int, long)", "int turned(int)", "int mask(int, int, int)",
        "int grid(int, int)", "int step(int, int, int)", "int lots(int, int, long)",
        "int scatter(int, int)", "int part(int, int, int)", "int next(int)", "int skip(int, int)",
        "int side(int, int, int)", "int mark(int, int)", "int count(int)", "int back(int)",
        "int even(int)", "int why(int)", "int grade(int)", "int pair(int, int, int)",
        "long gap(int, boolean, int)", "long worst(int, int)", "long square(int, int)",
        "long wave(int)", "long waves(int, int, int)", "long sum(int, int)", "int status(int)"};
    private static final String[] NEVER = {
        "throw", "throws", "try", "catch", "synchronized", "assert", "native", "volatile",
        "transient", "Object", "Random", "Thread", "Exact", "hashCode", "toString", "double", "float"};

    private static final long CALLS = 512;
    private static final long MOST_OBJECTS = 600_000;
    private static final long MOST_ELEMENTS = 7_300_000;

    private static int wrong = 0;

    public static void main(String[] args) throws IOException, IllegalAccessException {
        face();
        nested();
        room();
        text(Files.readString(Path.of("src/main/java/EvenScatter.java")));
        System.out.println(wrong == 0 ? "face and language are kept" : wrong + " rules are broken");
        if (wrong != 0) {
            System.exit(1);
        }
    }

    private static void need(boolean holds, String rule) {
        if (!holds) {
            wrong++;
            System.out.println(rule);
        }
    }

    private static void face() {
        Class<?> c = EvenScatter.class;
        need(Modifier.isPublic(c.getModifiers()) && Modifier.isFinal(c.getModifiers()), "public and final");
        Set<String> names = new TreeSet<>();
        Set<String> found = new TreeSet<>();
        for (Method m : c.getDeclaredMethods()) {
            if (Modifier.isPublic(m.getModifiers())) {
                need(!Modifier.isStatic(m.getModifiers()), m + " is static");
                names.add(m.getName());
                String with = Arrays.toString(m.getParameterTypes());
                found.add(m.getReturnType() + " " + m.getName() + "(" + with.substring(1, with.length() - 1) + ")");
            } else {
                need(Modifier.isPrivate(m.getModifiers()), m + " is not private");
            }
        }
        need(found.equals(new TreeSet<>(Arrays.asList(FACE))), "the face is " + found);
        for (Method m : c.getDeclaredMethods()) {
            need(Modifier.isPublic(m.getModifiers()) || !names.contains(m.getName()), m + " has a public name");
        }
        Constructor<?>[] made = c.getDeclaredConstructors();
        need(made.length == 1 && Modifier.isPublic(made[0].getModifiers())
            && made[0].getParameterCount() == 0, "one public constructor");
        fields(c);
    }

    private static void fields(Class<?> c) {
        int own = 0;
        for (Field f : c.getDeclaredFields()) {
            int m = f.getModifiers();
            need(c != EvenScatter.class || Modifier.isPrivate(m), f + " is not private");
            need(!Modifier.isStatic(m) || Modifier.isFinal(m), f + " is static and not final");
            own += Modifier.isStatic(m) ? 0 : 1;
        }
        need(own <= 20, c + " has " + own + " fields");
    }

    private static void nested() {
        Class<?>[] inside = EvenScatter.class.getDeclaredClasses();
        need(inside.length <= 11, inside.length + " classes inside");
        for (Class<?> c : inside) {
            need(Modifier.isStatic(c.getModifiers()) && !Modifier.isPublic(c.getModifiers()), c + " is not static");
            fields(c);
            for (Method m : c.getDeclaredMethods()) {
                need(m.getParameterCount() <= 7, m + " takes more than seven");
                need(!isPublicName(m.getName()), m + " has a public name");
            }
        }
    }

    private static boolean isPublicName(String name) {
        for (String method : FACE) {
            if (method.contains(" " + name + "(")) {
                return true;
            }
        }
        return false;
    }

    /**
     * All that a run makes must fit in one room. Calls that measure make nothing, so the dearest
     * runs make new objects only, or fill each one with its 12 greatest SCATTERS.
     */
    private static void room() throws IllegalAccessException {
        long[] fresh = sizeOf(new EvenScatter());
        EvenScatter x = new EvenScatter();
        for (int s = 0; s < 12; s++) {
            x.table(6, 8);
        }
        long[] full = sizeOf(x);
        for (int kind = 0; kind < 2; kind++) {
            long most = kind == 0 ? MOST_OBJECTS : MOST_ELEMENTS;
            String what = kind == 0 ? " objects" : " fields and elements";
            need(CALLS * fresh[kind] <= most, "new objects alone make " + CALLS * fresh[kind] + what);
            long filled = (CALLS / 13 + 1) * full[kind];
            need(filled <= most, "filled objects make " + filled + what);
        }
    }

    /** How many objects and arrays there are from this one on, and their fields and elements. */
    private static long[] sizeOf(Object object) throws IllegalAccessException {
        long[] size = {1, 0};
        if (object.getClass().isArray()) {
            int length = Array.getLength(object);
            size[1] = length;
            for (int i = 0; i < length && !object.getClass().getComponentType().isPrimitive(); i++) {
                add(size, Array.get(object, i));
            }
            return size;
        }
        for (Field f : object.getClass().getDeclaredFields()) {
            if (!Modifier.isStatic(f.getModifiers())) {
                size[1]++;
                f.setAccessible(true);
                if (!f.getType().isPrimitive()) {
                    add(size, f.get(object));
                }
            }
        }
        return size;
    }

    private static void add(long[] size, Object part) throws IllegalAccessException {
        if (part != null) {
            long[] more = sizeOf(part);
            size[0] += more[0];
            size[1] += more[1];
        }
    }

    private static void text(String source) {
        String code = source.replaceAll("(?s)/\\*.*?\\*/", "").replaceAll("//[^\n]*", "");
        for (String word : NEVER) {
            Matcher m = Pattern.compile("\\b\\w*" + word + "\\b").matcher(code);
            while (m.find()) {
                need(!m.group().equals(word) && !word.equals("Exact"), "the word " + m.group());
            }
        }
        need(!code.contains("->") && !code.contains("::"), "a lambda or a method reference");
        need(!code.contains("static {"), "a static initialiser");
        need(!Pattern.compile("while\\s*\\(\\s*true|for\\s*\\([^;)]*;\\s*;").matcher(code).find(),
            "a loop whose end can't be seen");
        need(source.chars().allMatch(c -> c < 128), "a sign above 127");
        Matcher m = Pattern.compile("import ([\\w.]+);").matcher(code);
        while (m.find()) {
            need(m.group(1).equals("java.util.Arrays"), "import of " + m.group(1));
        }
        methodLengths(source);
    }

    /** A method begins with a line that ends in ") {" and stands in a class, and ends at its indent. */
    private static void methodLengths(String source) {
        String[] lines = source.split("\n");
        Pattern head = Pattern.compile("( {4}| {8})(public |private |static |final )*[\\w\\[\\]]+ \\w+\\(.*\\) \\{");
        for (int i = 0; i < lines.length; i++) {
            Matcher m = head.matcher(lines[i]);
            if (m.matches() && !lines[i].contains(" else ")) {
                int end = i;
                while (end < lines.length - 1 && !lines[end].equals(m.group(1) + "}")) {
                    end++;
                }
                need(end - i < 60, "line " + (i + 1) + " begins a method of " + (end - i + 1) + " lines");
            }
        }
    }
}
