import java.io.IOException;
import java.lang.reflect.Method;
import java.lang.reflect.Modifier;
import java.net.URL;
import java.net.URLClassLoader;
import java.nio.file.DirectoryStream;
import java.nio.file.Files;
import java.nio.file.Path;
import java.util.regex.Matcher;
import java.util.regex.Pattern;
import javax.tools.ToolProvider;

/** What README.md says is so: its Java is compiled and run, each call with the answer behind it. */
public final class ReadmeTest {
    private static final Pattern BLOCK = Pattern.compile("(?ms)^```java\n(.*?)^```");
    private static final Pattern ANSWERED = Pattern.compile("(?m)^(\\S.*?);\\s*// (-?\\d+)\\b.*$");
    /** Fewer would mean that the page is no longer read as it is written. */
    private static final int FEWEST_CALLS = 30;
    private static int wrong = 0;

    private ReadmeTest() {
    }

    private static void tell(String what) {
        wrong++;
        System.out.println(what);
    }

    /** Called by the Java of the page. */
    public static void due(String call, int got, int want) {
        if (got != want) {
            tell("README.md says that " + call + " answers " + want + ", but it answers " + got);
        }
    }

    private static String quoted(String code) {
        return "\"" + code.replace("\\", "\\\\").replace("\"", "\\\"") + "\"";
    }

    /** Rows of a block become checks; a block of methods stands beside them. */
    private static String classOf(String page) {
        StringBuilder methods = new StringBuilder();
        StringBuilder runs = new StringBuilder();
        int calls = 0;
        Matcher blocks = BLOCK.matcher(page);
        while (blocks.find()) {
            if (blocks.group(1).startsWith("static ")) {
                methods.append(blocks.group(1));
                continue;
            }
            StringBuilder rows = new StringBuilder();
            Matcher answered = ANSWERED.matcher(blocks.group(1));
            while (answered.find()) {
                String row = "ReadmeTest.due(" + quoted(answered.group(1)) + ", " + answered.group(1) + ", " + answered.group(2) + ");";
                answered.appendReplacement(rows, Matcher.quoteReplacement(row));
                calls++;
            }
            answered.appendTail(rows);
            runs.append("{\n").append(rows).append("}\n");
        }
        if (calls < FEWEST_CALLS) {
            tell("README.md has " + calls + " calls with answers");
        }
        return "public final class ReadmeCode {\n" + methods + "public static void run() {\n" + runs + "}\n}\n";
    }

    private static void runCode(String page) throws Exception {
        Path out = Files.createTempDirectory("readme");
        Path source = out.resolve("ReadmeCode.java");
        try {
            Files.writeString(source, classOf(page));
            int failed = ToolProvider.getSystemJavaCompiler().run(null, null, null, "-cp", System.getProperty("java.class.path"),
                "-d", out.toString(), source.toString());
            if (failed != 0) {
                tell("the Java of README.md does not compile");
                return;
            }
            try (URLClassLoader loader = new URLClassLoader(new URL[] {out.toUri().toURL()})) {
                loader.loadClass("ReadmeCode").getMethod("run").invoke(null);
            }
        } finally {
            empty(out);
        }
    }

    private static void empty(Path directory) throws IOException {
        try (DirectoryStream<Path> files = Files.newDirectoryStream(directory)) {
            for (Path file : files) {
                Files.delete(file);
            }
        }
        Files.delete(directory);
    }

    private static void namesAll(String page) throws IOException {
        for (Method method : CornerTown.class.getDeclaredMethods()) {
            if (Modifier.isPublic(method.getModifiers()) && !page.contains("`" + method.getName() + "`")) {
                tell("README.md does not name " + method.getName());
            }
        }
        for (Class<?> inside : CornerTown.class.getDeclaredClasses()) {
            if (!page.contains("`" + inside.getSimpleName() + "`")) {
                tell("README.md does not name the class " + inside.getSimpleName());
            }
        }
        try (DirectoryStream<Path> tests = Files.newDirectoryStream(Path.of("src/test/java"), "*.java")) {
            for (Path test : tests) {
                if (!page.contains("- " + test.getFileName().toString().replace(".java", ":"))) {
                    tell("README.md does not name " + test.getFileName());
                }
            }
        }
    }

    public static void main(String[] args) throws Exception {
        String page = Files.readString(Path.of("README.md"));
        runCode(page);
        namesAll(page);
        System.out.println(wrong == 0 ? "README.md is as it says" : wrong + " things of README.md are not as it says");
        if (wrong != 0) {
            System.exit(1);
        }
    }
}
