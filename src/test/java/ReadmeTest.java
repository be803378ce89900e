import java.io.IOException;
import java.lang.reflect.InvocationTargetException;
import java.net.URL;
import java.net.URLClassLoader;
import java.nio.file.Files;
import java.nio.file.Path;
import java.util.Comparator;
import java.util.List;
import java.util.regex.Matcher;
import java.util.regex.Pattern;
import java.util.stream.Stream;
import javax.tools.ToolProvider;

/** README.md's example is run as it stands there, and each answer that its comments tell must be the one that comes. */
public final class ReadmeTest {
    private static final Pattern CALL = Pattern.compile("census\\.(\\w+)(\\(.*\\)); +// (-?\\d+)(.*)");
    private static final Pattern TOLD = Pattern.compile("; (asked|upper|lower)\\(\\) (-?\\d+)");
    private static final int FEWEST = 30;
    private static int checks = 0, wrong = 0;

    private ReadmeTest() {
    }

    public static void main(String[] args) throws IOException, ReflectiveOperationException {
        String readme = Files.readString(Path.of("README.md"));
        must(readme.contains("## How to use it"), "README.md doesn't say how to use the class");
        must(readme.contains("## How to run its tests") && readme.contains("    .ci/run\n"), "nor how to run its tests");
        Matcher block = Pattern.compile("(?s)```java\n(.*?)```").matcher(readme);
        must(block.find(), "README.md has no example");
        run(program(block.group(1)));
        must(checks >= FEWEST, "the example has " + checks + " answers alone");
        testsAreNamed(readme);
        System.out.println(checks + " answers of README.md, " + wrong + " wrong");
        if (wrong != 0) {
            System.exit(1);
        }
    }

    private static void must(boolean holds, String what) {
        if (!holds) {
            wrong++;
            System.out.println(what);
        }
    }

    public static void due(String call, long got, long want) {
        checks++;
        must(got == want, call + " answered " + got + ", README.md says " + want);
    }

    private static String program(String example) {
        StringBuilder body = new StringBuilder();
        for (String line : example.split("\n")) {
            Matcher call = CALL.matcher(line);
            if (!call.matches()) {
                body.append(line).append('\n');
                continue;
            }
            String name = call.group(1) + call.group(2);
            body.append(check(name, "census." + name, call.group(3)));
            Matcher told = TOLD.matcher(call.group(4));
            while (told.find()) {
                body.append(check(told.group(1) + "() behind " + name, "census." + told.group(1) + "()", told.group(2)));
            }
        }
        return "public final class Example { public static void run() {\n" + body + "} }\n";
    }

    private static String check(String name, String call, String want) {
        return "ReadmeTest.due(\"" + name + "\", " + call + ", " + want + "L);\n";
    }

    private static void run(String program) throws IOException, ReflectiveOperationException {
        Path directory = Files.createTempDirectory("readme");
        try {
            Path file = directory.resolve("Example.java");
            Files.writeString(file, program);
            int answer = ToolProvider.getSystemJavaCompiler().run(null, null, null, "-proc:none",
                    "-cp", System.getProperty("java.class.path"), "-d", directory.toString(), file.toString());
            must(answer == 0, "the example doesn't compile");
            if (answer == 0) {
                try (URLClassLoader loader = new URLClassLoader(new URL[] {directory.toUri().toURL()})) {
                    loader.loadClass("Example").getMethod("run").invoke(null);
                }
            }
        } catch (InvocationTargetException thrown) {
            must(false, "the example throws " + thrown.getCause());
        } finally {
            try (Stream<Path> all = Files.walk(directory)) {
                for (Path path : (Iterable<Path>) all.sorted(Comparator.reverseOrder())::iterator) {
                    Files.delete(path);
                }
            }
        }
    }

    private static void testsAreNamed(String readme) throws IOException {
        List<Path> tests;
        try (Stream<Path> all = Files.list(Path.of("src/test/java"))) {
            tests = all.filter(file -> file.toString().endsWith("Test.java")).toList();
        }
        for (Path test : tests) {
            must(readme.contains(test.toString().replace('\\', '/')), "README.md doesn't name " + test);
        }
    }
}
