import java.io.IOException;
import java.lang.reflect.Constructor;
import java.lang.reflect.Field;
import java.lang.reflect.Method;
import java.lang.reflect.Modifier;
import java.nio.file.Files;
import java.nio.file.Path;
import java.util.Arrays;
import java.util.Set;
import java.util.TreeSet;
import java.util.regex.Matcher;
import java.util.regex.Pattern;

/** What of ../shared/LANGUAGE.md a test can see: the face, and words that may not stand in the file. */
public final class LanguageTest {
    private static final String[] FACE = {
        "int roof(int,int,int,int,int,int)", "int storm(int,int,int,int,int)", "int cannon(int,boolean)",
        "int tiles(int,int,int)", "int type(long,int)", "int clear()", "int read()", "int force(int,int,int)",
        "int breaks(int,int,int)", "int wins(int)", "int odds(int)", "int paint(int,int)",
        "int brush(int,int,int,int)", "int against()", "int decides(int)", "int power(int)", "int shield(int)",
        "int shards(int,int,int)", "int which(int)", "int recount(int,int)", "int year(int)", "int undo()",
        "int drawn(int,int)", "long part(int)", "int image(int)", "int from(int)", "int status(int)",
        "int count(int)", "long digest()"};
    private static final String[] FORBIDDEN = {"throw", "throws", "try", "catch", "finally", "synchronized", "assert",
        "import", "package", "->", "::", "native", "volatile", "transient", "protected", "double", "float",
        "System.out", "Exact", "MIN_VALUE", "MAX_VALUE"};
    private static final int LONGEST_METHOD = 60;
    private static final int MOST_CLASSES = 12;
    private static final int MOST_FIELDS = 20;

    private static int wrong = 0;

    private static void check(boolean holds, String what) {
        if (!holds) {
            wrong++;
            System.out.println(what);
        }
    }

    private static String told(Method m) {
        StringBuilder b = new StringBuilder(m.getReturnType().getName() + " " + m.getName() + "(");
        for (Class<?> c : m.getParameterTypes()) {
            b.append(b.charAt(b.length() - 1) == '(' ? "" : ",").append(c.getName());
        }
        return b.append(")").toString();
    }

    private static void face() {
        Class<?> c = HailVotes.class;
        check(Modifier.isPublic(c.getModifiers()) && Modifier.isFinal(c.getModifiers()), "not public and final");
        Set<String> open = new TreeSet<>();
        Set<String> openNames = new TreeSet<>();
        for (Method m : c.getDeclaredMethods()) {
            if (!Modifier.isPrivate(m.getModifiers())) {
                open.add(told(m));
                openNames.add(m.getName());
            }
        }
        check(open.equals(new TreeSet<>(Arrays.asList(FACE))), "the face is " + open);
        for (Class<?> any : withInner(c)) {
            for (Method m : any.getDeclaredMethods()) {
                boolean ofTheFace = any == c && !Modifier.isPrivate(m.getModifiers());
                check(ofTheFace || !openNames.contains(m.getName()), m + " bears a name of the face");
                check(m.getParameterCount() <= 7, m + " takes too many");
            }
        }
        Constructor<?>[] made = c.getDeclaredConstructors();
        check(made.length == 1 && Modifier.isPublic(made[0].getModifiers()) && made[0].getParameterCount() == 0,
            "constructors");
        for (Field f : c.getDeclaredFields()) {
            boolean open1 = !Modifier.isPrivate(f.getModifiers());
            check(!open1 || Set.of("NONE", "BAD", "NO", "FULL").contains(f.getName()), f + " can be seen");
        }
        check(HailVotes.NONE == -1 && HailVotes.BAD == -2 && HailVotes.NO == -3 && HailVotes.FULL == -4, "constants");
    }

    private static Class<?>[] withInner(Class<?> c) {
        Class<?>[] inner = c.getDeclaredClasses();
        Class<?>[] all = Arrays.copyOf(inner, inner.length + 1);
        all[inner.length] = c;
        return all;
    }

    private static void classes() {
        Class<?>[] all = withInner(HailVotes.class);
        check(all.length <= MOST_CLASSES, "too many classes");
        for (Class<?> c : all) {
            boolean outer = c == HailVotes.class;
            check(outer || (Modifier.isStatic(c.getModifiers()) && !Modifier.isPublic(c.getModifiers())), c + " inside");
            int fields = 0;
            for (Field f : c.getDeclaredFields()) {
                boolean still = Modifier.isStatic(f.getModifiers());
                fields += still ? 0 : 1;
                check(!still || Modifier.isFinal(f.getModifiers()), f + " is static and not final");
            }
            check(fields <= MOST_FIELDS, c + " has too many fields");
        }
    }

    private static void source() throws IOException {
        String whole = Files.readString(Path.of("src/main/java/HailVotes.java"));
        check(whole.chars().allMatch(ch -> ch == '\n' || (ch >= 32 && ch < 127)), "a sign that is not plain");
        String code = whole.replaceAll("(?s)/\\*.*?\\*/", "").replaceAll("//[^\n]*", "");
        for (String word : FORBIDDEN) {
            String bound = Character.isLetter(word.charAt(0)) && !word.equals("Exact") ? "\\b" : "";
            check(!Pattern.compile(bound + Pattern.quote(word) + bound).matcher(code).find(), "'" + word + "' stands there");
        }
        check(!Pattern.compile("\"\\s*\\+|\\+\\s*\"").matcher(code).find(), "texts joined by +");
        methodsAreShort(code);
    }

    private static void methodsAreShort(String code) {
        Matcher m = Pattern.compile("(?m)^( +)[^\n=;]*\\) \\{$").matcher(code);
        while (m.find()) {
            int end = code.indexOf("\n" + m.group(1) + "}", m.end());
            int lines = end < 0 ? 0 : code.substring(m.start(), end).split("\n").length;
            check(lines <= LONGEST_METHOD, "too long: " + m.group().trim());
        }
    }

    public static void main(String[] args) throws IOException {
        face();
        classes();
        source();
        System.out.println(wrong == 0 ? "LanguageTest: all as told" : "LanguageTest: " + wrong + " wrong");
        if (wrong != 0) {
            System.exit(1);
        }
    }
}
