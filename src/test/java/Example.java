import java.io.IOException;
import java.net.URL;
import java.net.URLClassLoader;
import java.nio.file.Files;
import java.nio.file.Path;
import java.util.ArrayList;
import java.util.List;
import java.util.function.BiConsumer;
import java.util.regex.Matcher;
import java.util.regex.Pattern;
import javax.tools.ToolProvider;

/**
 * An example of README.md: lines of Java, each a statement and, behind it, a comment that begins with what it answers.
 * It is compiled as it stands, so that what a reader takes over from it is Java.
 */
final class Example {
    private static final String CLASS = "ExampleOfReadme";
    private static final Pattern LINE = Pattern.compile("(.*;)\\s*(?://\\s*(.*))?");
    private static final Pattern ANSWER = Pattern.compile("(-?\\d+|true|false|throws \\w+)(?:: .*)?");
    private static final Pattern MADE = Pattern.compile("SpecOrder \\w+ = new SpecOrder\\(.*\\);");
    private static final Pattern KEPT = Pattern.compile("\\w+ (\\w+) = .*;");

    private final List<String> statements = new ArrayList<>();
    /** What each statement is said to answer; null of one that makes an object. */
    private final List<String> answers = new ArrayList<>();

    /** The examples of a text: what stands between a line ```java and a line ```. */
    static List<Example> of(List<String> text) {
        List<Example> examples = new ArrayList<>();
        Example open = null;
        for (String line : text) {
            if (line.equals("```java")) {
                open = new Example();
                examples.add(open);
            } else if (line.startsWith("```")) {
                open = null;
            } else if (open != null && !line.isBlank()) {
                open.add(line.strip());
            }
        }
        return examples;
    }

    private void add(String line) {
        Matcher parts = LINE.matcher(line);
        if (!parts.matches()) {
            throw new IllegalArgumentException("no statement: " + line);
        }
        Matcher answer = ANSWER.matcher(parts.group(2) == null ? "" : parts.group(2));
        boolean made = MADE.matcher(parts.group(1)).matches();
        if (!made && !answer.matches()) {
            throw new IllegalArgumentException("no answer behind: " + line);
        }
        statements.add(parts.group(1));
        answers.add(made ? null : answer.group(1));
    }

    /** How many of its calls are of this method. */
    long calls(String method) {
        return statements.stream().filter(s -> s.contains("." + method + "(")).count();
    }

    /** Makes the calls; each that does not answer what the text says is told with what it answered. */
    List<String> wrong() throws IOException, ReflectiveOperationException {
        List<String> wrong = new ArrayList<>();
        boolean[] made = new boolean[statements.size()];
        run((number, answer) -> {
            made[number] = true;
            if (!String.valueOf(answer).equals(answers.get(number))) {
                wrong.add(statements.get(number) + " answered " + answer + ", README.md says " + answers.get(number));
            }
        });
        for (int i = 0; i < made.length; i++) {
            if (!made[i] && answers.get(i) != null) {
                wrong.add(statements.get(i) + " was not called");
            }
        }
        return wrong;
    }

    private void run(BiConsumer<Integer, Object> told) throws IOException, ReflectiveOperationException {
        Path place = Files.createTempDirectory("example");
        Path source = place.resolve(CLASS + ".java");
        Path compiled = place.resolve(CLASS + ".class");
        try {
            Files.writeString(source, source());
            int exit = ToolProvider.getSystemJavaCompiler().run(null, null, null, "-proc:none", "-d", place.toString(),
                    "-cp", System.getProperty("java.class.path"), source.toString());
            if (exit != 0) {
                throw new IllegalArgumentException("the example does not compile");
            }
            try (URLClassLoader loader = new URLClassLoader(new URL[] {place.toUri().toURL()})) {
                loader.loadClass(CLASS).getMethod("run", BiConsumer.class).invoke(null, told);
            }
        } finally {
            Files.deleteIfExists(compiled);
            Files.deleteIfExists(source);
            Files.deleteIfExists(place);
        }
    }

    private String source() {
        StringBuilder text = new StringBuilder("public final class " + CLASS + " {\n"
                + "public static void run(java.util.function.BiConsumer<Integer, Object> told) {\n");
        for (int i = 0; i < statements.size(); i++) {
            text.append(line(i)).append('\n');
        }
        return text.append("}\n}\n").toString();
    }

    private String line(int number) {
        String statement = statements.get(number);
        Matcher kept = KEPT.matcher(statement);
        if (answers.get(number) == null) {
            return statement;
        }
        if (kept.matches()) {
            return statement + " told.accept(" + number + ", " + kept.group(1) + ");";
        }
        String call = statement.substring(0, statement.length() - 1);
        return "try { told.accept(" + number + ", " + call + "); } catch (RuntimeException e) { "
                + "told.accept(" + number + ", \"throws \" + e.getClass().getSimpleName()); }";
    }
}
