import java.io.IOException;
import java.lang.reflect.Method;
import java.nio.file.Files;
import java.nio.file.Path;
import java.util.Set;
import java.util.TreeSet;
import java.util.regex.Matcher;
import java.util.regex.Pattern;

/**
 * README.md's example, call by call: each line of it that calls x is made, and must answer the number
 * behind its //. Each call of the face must stand in it, so that the page leaves none out.
 */
public final class ReadmeTest {
    private static final Pattern BLOCK = Pattern.compile("(?s)```java\n(.*?)```");
    private static final Pattern LINE = Pattern.compile("x\\.(\\w+)\\((.*?)\\); +// (-?\\d+)(?: .*)?");

    private static int wrong = 0;

    private static void check(boolean holds, String what) {
        if (!holds) {
            wrong++;
            System.out.println(what);
        }
    }

    private static Method named(String name) {
        for (Method m : HailVotes.class.getMethods()) {
            if (m.getDeclaringClass() == HailVotes.class && m.getName().equals(name)) {
                return m;
            }
        }
        throw new IllegalArgumentException("README.md calls " + name + ", which is none");
    }

    private static Object value(String told, Class<?> type) {
        if (type == boolean.class) {
            return Boolean.parseBoolean(told);
        }
        if (told.equals("HailVotes.NONE")) {
            return HailVotes.NONE;
        }
        long v = Long.decode(told.endsWith("L") ? told.substring(0, told.length() - 1) : told);
        if (type == long.class) {
            return v;
        }
        return Math.toIntExact(v);
    }

    private static long answer(HailVotes x, String name, String told) throws ReflectiveOperationException {
        Method m = named(name);
        Class<?>[] types = m.getParameterTypes();
        String[] args = told.isEmpty() ? new String[0] : told.split(", ");
        Object[] values = new Object[types.length];
        for (int i = 0; i < types.length; i++) {
            values[i] = value(args[i], types[i]);
        }
        return ((Number) m.invoke(x, values)).longValue();
    }

    private static Set<String> tried(String code) throws ReflectiveOperationException {
        Set<String> names = new TreeSet<>();
        HailVotes x = new HailVotes();
        for (String line : code.split("\n")) {
            if (line.startsWith("x.")) {
                Matcher m = LINE.matcher(line);
                check(m.matches(), "no answer is told: " + line);
                if (m.matches()) {
                    long got = answer(x, m.group(1), m.group(2));
                    check(got == Long.parseLong(m.group(3)), line + ": answered " + got);
                    names.add(m.group(1));
                }
            }
        }
        return names;
    }

    public static void main(String[] args) throws IOException, ReflectiveOperationException {
        Matcher block = BLOCK.matcher(Files.readString(Path.of("README.md")));
        check(block.find(), "README.md has no example");
        Set<String> names = wrong == 0 ? tried(block.group(1)) : Set.of();
        for (Method m : HailVotes.class.getMethods()) {
            boolean ofTheFace = m.getDeclaringClass() == HailVotes.class;
            check(!ofTheFace || names.contains(m.getName()), "README.md's example leaves out " + m.getName());
        }
        System.out.println(wrong == 0 ? "ReadmeTest: the example answers as told" : "ReadmeTest: " + wrong + " wrong");
        if (wrong != 0) {
            System.exit(1);
        }
    }
}
