import java.io.IOException;
import java.lang.reflect.Method;
import java.net.URL;
import java.net.URLClassLoader;
import java.nio.file.Files;
import java.nio.file.Path;
import java.util.List;
import java.util.Set;
import java.util.TreeSet;
import java.util.regex.Matcher;
import java.util.regex.Pattern;
import java.util.stream.Collectors;
import java.util.stream.Stream;
import javax.tools.ToolProvider;

/** What README.md shows of the class's use compiles and is true; the tests it names are those that .ci/run runs. */
public final class ReadmeTest {
    private static final Pattern CALL = Pattern.compile("(\\s*)(?:int \\w+ = )?(lens\\.\\w+\\([^)]*\\));\\s*// ([A-Z]+|-?\\d+)\\b.*");
    private static final Pattern TEST = Pattern.compile("`([A-Z]\\w*(?:Test|Edges))`");
    private static int wrong = 0;

    private ReadmeTest() {
    }

    public static void main(String[] args) throws Exception {
        String readme = Files.readString(Path.of("README.md"));
        use(readme);
        tests(readme);
        System.out.println(wrong == 0 ? "README.md is true" : wrong + " things in README.md are not true");
        if (wrong != 0) {
            System.exit(1);
        }
    }

    private static void check(boolean so, String what) {
        if (!so) {
            wrong++;
            System.out.println(what);
        }
    }

    /** For the program that is made of what README.md shows. */
    public static void due(String call, int got, int want) {
        check(got == want, call + " answers " + got + ", README.md says " + want);
    }

    private static void use(String readme) throws Exception {
        int begin = readme.indexOf("```java\n");
        int end = readme.indexOf("\n```", begin + 1);
        check(begin >= 0 && end > begin, "README.md shows no use");
        if (begin < 0 || end <= begin) {
            return;
        }
        StringBuilder shown = new StringBuilder("public final class Shown {\npublic static void run() {\n");
        StringBuilder told = new StringBuilder("public final class Told {\npublic static void run() {\n");
        for (String line : readme.substring(begin + 8, end).lines().collect(Collectors.toList())) {
            Matcher m = CALL.matcher(line);
            boolean call = m.matches();
            check(call || !line.contains("//"), "README.md does not say what this answers: " + line);
            shown.append(line).append('\n');
            told.append(call ? answer(m.group(2), m.group(3)) : line).append('\n');
        }
        run("Shown", shown.append("}\n}\n").toString());
        run("Told", told.append("}\n}\n").toString());
    }

    private static String answer(String call, String want) {
        boolean name = Character.isLetter(want.charAt(0));
        return "ReadmeTest.due(\"" + call + "\", " + call + ", " + (name ? "HandedLens." + want : want) + ");";
    }

    /** The program is compiled with the class as it stands here, and run. */
    private static void run(String name, String source) throws Exception {
        Path out = Files.createTempDirectory("readme");
        try {
            Path file = out.resolve(name + ".java");
            Files.writeString(file, source);
            String path = System.getProperty("java.class.path");
            int failed = ToolProvider.getSystemJavaCompiler().run(null, null, null, "-cp", path, "-d", out.toString(), file.toString());
            check(failed == 0, "what README.md shows does not compile");
            if (failed == 0) {
                runClass(out, name);
            }
        } finally {
            delete(out);
        }
    }

    private static void runClass(Path out, String name) throws Exception {
        try (URLClassLoader loader = new URLClassLoader(new URL[] {out.toUri().toURL()}, ReadmeTest.class.getClassLoader())) {
            Method method = loader.loadClass(name).getMethod("run");
            method.invoke(null);
        }
    }

    private static void delete(Path directory) throws IOException {
        try (Stream<Path> files = Files.list(directory)) {
            for (Path file : files.collect(Collectors.toList())) {
                Files.delete(file);
            }
        }
        Files.delete(directory);
    }

    private static void tests(String readme) throws IOException {
        Set<String> named = new TreeSet<>();
        Matcher m = TEST.matcher(readme);
        while (m.find()) {
            named.add(m.group(1));
        }
        Set<String> there = new TreeSet<>();
        try (Stream<Path> files = Files.list(Path.of("src/test/java"))) {
            files.forEach(file -> there.add(file.getFileName().toString().replace(".java", "")));
        }
        check(named.equals(there), "README.md names " + named + ", there are " + there);
        String script = Files.readString(Path.of(".ci/run"));
        for (String part : List.of("src/test/java", "src/test/helper", "../shared/tests")) {
            check(readme.contains("`" + part + "`") && script.contains(part), "not both README.md and .ci/run tell of " + part);
        }
        check(readme.contains("`.ci/run`") && Files.isExecutable(Path.of(".ci/run")), ".ci/run is not told, or can't be run");
        String model = Files.readString(Path.of("src/test/java/ModelTest.java"));
        Matcher runs = Pattern.compile("RUNS = (\\d+);").matcher(model);
        check(runs.find() && readme.contains("`ModelTest`: " + runs.group(1) + " runs"), "README.md tells another number of runs");
    }
}
