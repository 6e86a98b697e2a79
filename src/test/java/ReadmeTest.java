import java.net.URL;
import java.net.URLClassLoader;
import java.nio.charset.StandardCharsets;
import java.nio.file.Files;
import java.nio.file.Path;
import java.nio.file.Paths;
import java.util.ArrayList;
import java.util.List;
import java.util.regex.Matcher;
import java.util.regex.Pattern;
import javax.tools.JavaCompiler;
import javax.tools.ToolProvider;

/** README.md's example compiles as it stands there, and each line's answer is the one that its remark tells. */
public final class ReadmeTest {
    private static final Pattern CALL = Pattern.compile("\\s*(int \\w+ = )?(x\\.\\w+\\(.*\\));\\s*// (-?\\d+): .*");

    private static final List<String> lines = new ArrayList<>();
    private static final List<Long> due = new ArrayList<>();

    public static void main(String[] args) throws Exception {
        String readme = new String(Files.readAllBytes(Paths.get("README.md")), StandardCharsets.ISO_8859_1);
        String example = readme.substring(readme.indexOf("```java") + 7);
        example = example.substring(0, example.indexOf("```"));
        compiled(example);
        List<?> got = answers(compiled(telling(example)));
        Due.isTrue("the example's having many calls", due.size() > 20);
        Due.is("answers", got.size(), due.size());
        for (int i = 0; i < due.size() && i < got.size(); i++) {
            Due.is(lines.get(i), (Long) got.get(i), due.get(i));
        }
        everyCallIsNamed(readme);
        Due.end();
    }

    /** The example with its answers put into a list. */
    private static String telling(String example) {
        StringBuilder b = new StringBuilder();
        for (String line : example.split("\n")) {
            Matcher m = CALL.matcher(line);
            if (m.matches()) {
                lines.add(m.group(2));
                due.add(Long.parseLong(m.group(3)));
                String kept = m.group(1) == null ? "" : m.group(1) + "(int) (long) ANSWERS.get(ANSWERS.size() - 1);";
                b.append("ANSWERS.add((long) ").append(m.group(2)).append(");").append(kept).append('\n');
            } else {
                Due.isTrue("no answer is told where none is looked at, as in " + line, !line.contains("// "));
                b.append(line).append('\n');
                if (line.contains("class Example")) {
                    b.append("public static final java.util.List<Long> ANSWERS = new java.util.ArrayList<>();\n");
                }
            }
        }
        return b.toString();
    }

    /** Where the class of that source stands. */
    private static Path compiled(String source) throws Exception {
        Path dir = Files.createTempDirectory("readme");
        Path file = dir.resolve("Example.java");
        for (String made : new String[] {"", "Example.java", "Example.class"}) {
            dir.resolve(made).toFile().deleteOnExit();
        }
        Files.write(file, source.getBytes(StandardCharsets.ISO_8859_1));
        JavaCompiler javac = ToolProvider.getSystemJavaCompiler();
        Due.isTrue("a javac", javac != null);
        int code = javac == null ? 1 : javac.run(null, null, null, "-proc:none", "-cp",
                System.getProperty("java.class.path"), "-d", dir.toString(), file.toString());
        Due.is("javac of the example", code, 0);
        return dir;
    }

    private static List<?> answers(Path dir) throws Exception {
        try (URLClassLoader loader = new URLClassLoader(new URL[] {dir.toUri().toURL()})) {
            Class<?> example = loader.loadClass("Example");
            example.getMethod("main", String[].class).invoke(null, (Object) new String[0]);
            return (List<?>) example.getField("ANSWERS").get(null);
        }
    }

    private static void everyCallIsNamed(String readme) {
        for (java.lang.reflect.Method method : ScopeWarden.class.getDeclaredMethods()) {
            if (java.lang.reflect.Modifier.isPublic(method.getModifiers())) {
                Due.isTrue("README.md's naming " + method.getName(), readme.contains("`" + method.getName() + "`"));
            }
        }
    }
}
