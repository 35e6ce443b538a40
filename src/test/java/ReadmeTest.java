import java.io.IOException;
import java.io.StringWriter;
import java.lang.reflect.Method;
import java.lang.reflect.Modifier;
import java.net.URI;
import java.nio.file.Files;
import java.nio.file.Path;
import java.util.List;
import java.util.regex.Matcher;
import java.util.regex.Pattern;
import javax.tools.JavaCompiler;
import javax.tools.JavaFileObject;
import javax.tools.SimpleJavaFileObject;
import javax.tools.ToolProvider;

/** The lines of Java in README.md are compiled and run as they stand there; behind each call is what it must answer. */
final class ReadmeTest {
    private static final Path PAGE = Path.of("README.md");
    private static final Pattern BLOCK = Pattern.compile("(?s)```java\n(.*?)```");
    private static final Pattern SHOWN = Pattern.compile("(?m)^(x\\.(\\w+)\\(.*\\)); +// (-?\\d+|[A-Z]+): .*$");
    private static final Checks CHECKS = new Checks();

    private ReadmeTest() {
    }

    public static void main(String[] args) throws IOException, ReflectiveOperationException {
        String page = Files.readString(PAGE);
        StringBuilder lines = new StringBuilder();
        for (Matcher block = BLOCK.matcher(page); block.find();) {
            lines.append(block.group(1));
        }
        everyCallIsShown(lines.toString());
        everyTestIsNamed(page);
        run(program(lines.toString()));
        CHECKS.end();
    }

    private static void everyCallIsShown(String lines) {
        for (Method method : SolsticeBoys.class.getDeclaredMethods()) {
            if (Modifier.isPublic(method.getModifiers())) {
                boolean shown = SHOWN.matcher(lines).results().anyMatch(line -> line.group(2).equals(method.getName()));
                CHECKS.isTrue(method.getName() + " is shown with its answer", shown);
            }
        }
        for (String line : lines.split("\n")) {
            boolean call = line.startsWith("x.");
            CHECKS.isTrue("'" + line + "' tells its answer", !call || SHOWN.matcher(line).matches());
        }
    }

    private static void everyTestIsNamed(String page) throws IOException {
        try (var files = Files.list(Path.of("src/test/java"))) {
            for (Path file : files.toList()) {
                String name = file.getFileName().toString().replace(".java", "");
                CHECKS.isTrue(name + " is named", !name.endsWith("Test") || page.contains("| " + name + " |"));
            }
        }
    }

    private static String program(String lines) {
        String checked = SHOWN.matcher(lines).replaceAll(line -> {
            String want = line.group(3);
            String due = Character.isLetter(want.charAt(0)) ? "SolsticeBoys." + want : want;
            return Matcher.quoteReplacement("checks.due(\"" + line.group(1) + "\", " + line.group(1) + ", " + due + ");");
        });
        return "final class Shown { static void run(Checks checks) {\n" + checked + "} }\n";
    }

    private static void run(String program) throws ReflectiveOperationException {
        JavaFileObject source = new SimpleJavaFileObject(URI.create("string:///Shown.java"), JavaFileObject.Kind.SOURCE) {
            @Override
            public CharSequence getCharContent(boolean ignoreEncodingErrors) {
                return program;
            }
        };
        Path out = Path.of(URI.create(ReadmeTest.class.getProtectionDomain().getCodeSource().getLocation().toString()));
        JavaCompiler compiler = ToolProvider.getSystemJavaCompiler();
        StringWriter said = new StringWriter();
        List<String> options = List.of("-cp", out.toString(), "-d", out.toString());
        boolean compiled = compiler.getTask(said, null, null, options, null, List.of(source)).call();
        CHECKS.isTrue("README.md compiles: " + said, compiled);
        if (compiled) {
            Class.forName("Shown").getDeclaredMethod("run", Checks.class).invoke(null, CHECKS);
        }
    }
}
