import java.io.IOException;
import java.io.UncheckedIOException;
import java.lang.reflect.Method;
import java.lang.reflect.Modifier;
import java.net.URL;
import java.net.URLClassLoader;
import java.nio.file.Files;
import java.nio.file.Path;
import java.util.ArrayList;
import java.util.List;
import java.util.regex.Matcher;
import java.util.regex.Pattern;
import javax.tools.ToolProvider;

/** What README.md shows: its examples are compiled as they stand there, and each answers what is told behind it. */
final class ReadmeTest {
    private static final Path README = Path.of("README.md");
    private static final String MADE = "BlankRations office = new BlankRations();";
    private static final Pattern BLOCK = Pattern.compile("```java\n(.*?)```", Pattern.DOTALL);
    private static final Pattern ASKED = Pattern.compile("((?:office\\.\\w+|post)\\(.*\\)); +// .*: (-?\\d+)");

    private final List<String> calls = new ArrayList<>();
    private final List<Long> wanted = new ArrayList<>();
    private final StringBuilder helpers = new StringBuilder();
    private final StringBuilder body = new StringBuilder();

    private ReadmeTest() { }

    static void run() {
        try {
            ReadmeTest test = new ReadmeTest();
            test.read(Files.readString(README));
            test.everyCallIsShown();
            test.compare(test.answers());
        } catch (IOException e) {
            throw new UncheckedIOException(e);
        } catch (ReflectiveOperationException e) {
            Check.holds("README: the examples run: " + e, false);
        }
    }

    private void read(String page) {
        Matcher m = BLOCK.matcher(page);
        while (m.find()) {
            if (m.group(1).startsWith("static ")) {
                helpers.append(m.group(1));
            } else {
                readExample(m.group(1));
            }
        }
        Check.holds("README shows examples", calls.size() > 50);
    }

    /** One object, and lines that each ask it and tell the answer. */
    private void readExample(String example) {
        String[] lines = example.split("\n");
        Check.holds("README: an example makes an object: " + lines[0], lines[0].equals(MADE));
        body.append("{ ").append(MADE).append('\n');
        for (int i = 1; i < lines.length; i++) {
            Matcher m = ASKED.matcher(lines[i]);
            boolean is = m.matches();
            Check.holds("README: a line tells its answer: " + lines[i], is);
            if (is) {
                calls.add(m.group(1));
                wanted.add(Long.valueOf(m.group(2)));
                body.append("told.add((long) ").append(m.group(1)).append(");\n");
            }
        }
        body.append("}\n");
    }

    private void everyCallIsShown() {
        String all = calls + helpers.toString();
        for (Method method : BlankRations.class.getDeclaredMethods()) {
            if (Modifier.isPublic(method.getModifiers())) {
                Check.holds("README shows " + method.getName(), all.contains("office." + method.getName() + "("));
            }
        }
    }

    private List<?> answers() throws IOException, ReflectiveOperationException {
        Path folder = Files.createTempDirectory("readme");
        Path source = folder.resolve("Shown.java");
        Path made = folder.resolve("Shown.class");
        String list = "java.util.List<Long>";
        Files.writeString(source, "public final class Shown {\n" + helpers + "public static " + list + " told() {\n"
                + list + " told = new java.util.ArrayList<>();\n" + body + "return told;\n}\n}\n");
        try {
            int failed = ToolProvider.getSystemJavaCompiler().run(null, null, null,
                    "-cp", System.getProperty("java.class.path"), "-d", folder.toString(), source.toString());
            Check.due("README: the examples compile", failed, 0);
            if (failed != 0) {
                return List.of();
            }
            try (URLClassLoader loader = new URLClassLoader(new URL[] {folder.toUri().toURL()})) {
                return (List<?>) loader.loadClass("Shown").getMethod("told").invoke(null);
            }
        } finally {
            Files.deleteIfExists(made);
            Files.deleteIfExists(source);
            Files.deleteIfExists(folder);
        }
    }

    private void compare(List<?> answers) {
        Check.due("README: answers", answers.size(), wanted.size());
        for (int i = 0; i < answers.size(); i++) {
            Check.due("README: " + calls.get(i), (Long) answers.get(i), wanted.get(i));
        }
    }
}
