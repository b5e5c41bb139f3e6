import java.io.IOException;
import java.lang.reflect.Method;
import java.net.URL;
import java.net.URLClassLoader;
import java.nio.file.Files;
import java.nio.file.Path;
import java.util.Comparator;
import java.util.List;
import java.util.regex.Matcher;
import java.util.regex.Pattern;
import java.util.spi.ToolProvider;
import java.util.stream.Stream;

/** The lines of Java in README.md: each is compiled and called, and answers what is told behind it. */
public final class ReadmeTest {
    private static final Pattern LINE = Pattern.compile("(?:int (\\w+) = )?(x\\.\\w+\\(.*\\)); +// (-?\\d+|true|false): .*");
    private static final Due due = new Due("ReadmeTest");

    public static void main(String[] args) throws Exception {
        String readme = Files.readString(Path.of("README.md"));
        int from = readme.indexOf("```java\n") + 8;
        StringBuilder code = new StringBuilder("public final class Lines {\npublic static void run() {\n");
        for (String line : readme.substring(from, readme.indexOf("```", from)).split("\n")) {
            code.append(told(line)).append('\n');
        }
        due.is("README.md tells of .ci/run", readme.contains("    .ci/run\n"), true);
        everyMethodIn(code.toString());
        run(code.append("}\n}\n").toString());
        due.end();
    }

    /** Called by the lines. */
    public static void answer(String line, long got, long want) {
        due.is(line, got, want);
    }

    public static void answer(String line, boolean got, boolean want) {
        due.is(line, got, want);
    }

    private static String told(String line) {
        Matcher found = LINE.matcher(line);
        if (!found.matches()) {
            due.is("an answer stands behind " + line, line.startsWith("x."), false);
            return line;
        }
        String call = found.group(2);
        String made = found.group(1) == null ? "" : "int " + found.group(1) + " = " + call + "; ";
        String asked = found.group(1) == null ? call : found.group(1);
        return made + "ReadmeTest.answer(\"" + call + "\", " + asked + ", " + found.group(3) + ");";
    }

    private static void everyMethodIn(String code) {
        for (Method method : ZObjects.class.getMethods()) {
            if (method.getDeclaringClass() == ZObjects.class) {
                due.is("README.md uses " + method.getName(), code.contains("x." + method.getName() + "("), true);
            }
        }
    }

    private static void run(String code) throws Exception {
        Path place = Files.createTempDirectory("readme");
        try {
            Path file = place.resolve("Lines.java");
            Files.writeString(file, code);
            int failed = ToolProvider.findFirst("javac").orElseThrow().run(System.out, System.out,
                    "-cp", System.getProperty("java.class.path"), "-d", place.toString(), file.toString());
            due.is("compiling the lines", failed, 0);
            if (failed == 0) {
                try (URLClassLoader loader = new URLClassLoader(new URL[] {place.toUri().toURL()})) {
                    loader.loadClass("Lines").getMethod("run").invoke(null);
                }
            }
        } finally {
            delete(place);
        }
    }

    private static void delete(Path place) throws IOException {
        try (Stream<Path> all = Files.walk(place)) {
            List<Path> deepestFirst = all.sorted(Comparator.reverseOrder()).toList();
            for (Path each : deepestFirst) {
                Files.delete(each);
            }
        }
    }
}
