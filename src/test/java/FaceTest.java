import java.io.IOException;
import java.lang.reflect.Constructor;
import java.lang.reflect.Field;
import java.lang.reflect.Method;
import java.lang.reflect.Modifier;
import java.nio.file.Files;
import java.nio.file.Path;
import java.util.Arrays;
import java.util.Set;
import java.util.TreeSet;
import java.util.regex.Matcher;
import java.util.regex.Pattern;

/** The public face is the document's and no more; the source keeps to what LANGUAGE.md rules out by word. */
public final class FaceTest {
    private static final String[] METHODS = {
        "feed int", "line", "fault", "told int", "scene int int", "wearer int int", "layer int int", "logged int int",
        "year int", "wear int", "takeOff", "wipe int", "chip int int", "drift int", "undo int", "takes int", "dark int",
        "tooDark int", "willShow int int", "toWipe int int", "only int int", "order int int", "ground int", "mist int int",
        "meet int boolean", "couldBe", "ask", "write int int", "judge", "tear", "seed int", "keep int", "goBack int"};
    private static final String[] RULED_OUT = {
        "throw", "throws", "try", "catch", "finally", "synchronized", "assert", "import", "package", "->", "::",
        "Exact", "System\\.(?!arraycopy)", "Thread", "Random", "hashCode", "toString", "getClass"};
    private static final Set<String> LIBRARY = Set.of("Math.max", "Math.min", "Integer.bitCount", "System.arraycopy");
    private static final int MOST_LINES = 60;
    private static int wrong = 0;

    public static void main(String[] args) throws IOException {
        methods();
        constants();
        insides();
        source();
        System.out.println(wrong == 0 ? "the face is as due" : wrong + " faults of the face");
        if (wrong != 0) {
            System.exit(1);
        }
    }

    private static void check(boolean so, String what) {
        if (!so) {
            wrong++;
            System.out.println(what);
        }
    }

    private static String told(Method m) {
        StringBuilder s = new StringBuilder(m.getName());
        for (Class<?> c : m.getParameterTypes()) {
            s.append(' ').append(c.getName());
        }
        return s.toString();
    }

    private static void methods() {
        Set<String> want = new TreeSet<>(Arrays.asList(METHODS));
        Set<String> got = new TreeSet<>();
        Set<String> names = new TreeSet<>();
        for (Method m : HandedLens.class.getDeclaredMethods()) {
            if (!Modifier.isPrivate(m.getModifiers())) {
                got.add(told(m));
                names.add(m.getName());
                check(Modifier.isPublic(m.getModifiers()), m + " is not public");
                check(!Modifier.isStatic(m.getModifiers()), m + " is static");
                check(m.getReturnType() == int.class, m + " answers no int");
            }
        }
        check(got.equals(want), "methods are " + got);
        for (Method m : HandedLens.class.getDeclaredMethods()) {
            check(!Modifier.isPrivate(m.getModifiers()) || !names.contains(m.getName()), m + " has a public name");
        }
        for (Class<?> inside : HandedLens.class.getDeclaredClasses()) {
            for (Method m : inside.getDeclaredMethods()) {
                check(!names.contains(m.getName()), m + " has a public name");
                check(m.getParameterCount() <= 7, m + " takes more than seven");
            }
        }
        Constructor<?>[] made = HandedLens.class.getDeclaredConstructors();
        check(made.length == 1 && made[0].getParameterCount() == 0 && Modifier.isPublic(made[0].getModifiers()), "constructors");
        check(Modifier.isFinal(HandedLens.class.getModifiers()), "the class is not final");
    }

    private static void constants() {
        Set<String> seen = new TreeSet<>();
        for (Field f : HandedLens.class.getDeclaredFields()) {
            int how = f.getModifiers();
            if (!Modifier.isPrivate(how)) {
                seen.add(f.getName());
                check(Modifier.isPublic(how) && Modifier.isStatic(how) && Modifier.isFinal(how), f + " is no constant");
            }
            check(!Modifier.isStatic(how) || Modifier.isFinal(how), f + " is static and not final");
        }
        check(seen.equals(Set.of("NONE", "UNKNOWN", "OUTSIDE", "NOT", "FULL")), "constants are " + seen);
        check(HandedLens.NONE == -1 && HandedLens.UNKNOWN == -1000000001 && HandedLens.OUTSIDE == -1000000002
                && HandedLens.NOT == -1000000003 && HandedLens.FULL == -1000000004, "a constant is another");
    }

    private static void insides() {
        Class<?>[] insides = HandedLens.class.getDeclaredClasses();
        check(insides.length <= 11, "more than twelve classes");
        for (Class<?> inside : insides) {
            int how = inside.getModifiers();
            check(Modifier.isStatic(how) && !Modifier.isPublic(how) && !Modifier.isProtected(how), inside + " is not as due");
            check(inside.getDeclaredFields().length <= 20, inside + " has more than twenty fields");
        }
    }

    private static void source() throws IOException {
        String source = Files.readString(Path.of("src/main/java/HandedLens.java"));
        check(source.chars().allMatch(c -> c == '\n' || c >= 32 && c < 127), "a sign beyond 127, or a tab");
        String bare = source.replaceAll("(?s)/\\*.*?\\*/", "").replaceAll("//[^\n]*", "").replaceAll("'[^']+'", "0");
        for (String word : RULED_OUT) {
            boolean plain = word.chars().allMatch(Character::isLetter) && !word.equals("Exact");
            Matcher m = Pattern.compile(plain ? "\\b" + word + "\\b" : word).matcher(bare);
            check(!m.find(), "the source has " + word);
        }
        library(bare);
        lengths(source);
    }

    /** Names that begin as classes do are the file's own, or of the library that is allowed. */
    private static void library(String bare) {
        Set<String> own = new TreeSet<>(Set.of("HandedLens"));
        for (Class<?> inside : HandedLens.class.getDeclaredClasses()) {
            own.add(inside.getSimpleName());
        }
        Matcher m = Pattern.compile("\\b[A-Z][a-z]\\w*(\\.\\w+)?").matcher(bare);
        while (m.find()) {
            check(own.contains(m.group()) || LIBRARY.contains(m.group()), "the source uses " + m.group());
        }
    }

    /** A method goes from the line that opens it to the one that closes it, both as far in. */
    private static void lengths(String source) {
        Matcher m = Pattern.compile("(?m)^( {4}| {8})(?:[\\w\\[\\]]+ )*(\\w+)\\([^;]*\\) \\{\\R((?:.*\\R)*?)\\1\\}$").matcher(source);
        int methods = 0;
        while (m.find()) {
            methods++;
            check(m.group(3).lines().count() + 2 <= MOST_LINES, m.group(2) + " is longer than " + MOST_LINES + " lines");
        }
        check(methods >= METHODS.length, "only " + methods + " methods were found");
    }
}
