import java.io.IOException;
import java.lang.reflect.Method;
import java.lang.reflect.Modifier;
import java.nio.file.Files;
import java.nio.file.Path;
import java.util.ArrayList;
import java.util.List;
import java.util.TreeSet;

/** README.md: its examples' calls answer what it says, and its table has each call of the face. */
public final class ReadmeTest {
    private static final Check CHECK = new Check();

    public static void main(String[] args) throws IOException, ReflectiveOperationException {
        List<String> text = Files.readAllLines(Path.of("README.md"));
        wrongExamplesAreSeen();
        examplesAreRight(text);
        tableHasEachCall(text);
        saysHowToRunTheTests(text);
        CHECK.end();
    }

    private static void examplesAreRight(List<String> text) throws IOException, ReflectiveOperationException {
        CHECK.about("the examples of README.md");
        List<Example> examples = Example.of(text);
        CHECK.due("there are some", examples.isEmpty(), false);
        for (Example example : examples) {
            for (String wrong : example.wrong()) {
                CHECK.fail(wrong);
            }
        }
        for (Method m : face()) {
            long calls = examples.stream().mapToLong(e -> e.calls(m.getName())).sum();
            CHECK.due("they show " + m.getName(), calls > 0, true);
        }
    }

    /** What finds nothing wrong in wrong examples would show nothing about right ones. */
    private static void wrongExamplesAreSeen() throws IOException, ReflectiveOperationException {
        CHECK.about("examples that are wrong");
        CHECK.due("all right", wrongAnswers("x.messages(); // 0: none", "x.deliver(0); // false"), 0);
        CHECK.due("a number", wrongAnswers("x.messages(); // 1: one", "x.view(); // 0"), 1);
        CHECK.due("a boolean", wrongAnswers("x.deliver(0); // true: it is"), 1);
        CHECK.due("what is kept", wrongAnswers("int q = x.issue(0, 0, 0); // 1: the first", "x.retry(q); // 1"), 1);
        CHECK.due("nothing thrown", wrongAnswers("x.messages(); // throws IllegalStateException: no"), 1);
        CHECK.due("another exception", wrongAnswers("x.retry(0); // throws IllegalStateException: no"), 1);
        CHECK.due("an exception", wrongAnswers("x.retry(0); // 1: no"), 1);
        CHECK.dueThrow("no answer", Check.ARGUMENT, () -> example("x.messages(); // there are none"));
        CHECK.dueThrow("no comment", Check.ARGUMENT, () -> example("x.messages();"));
        CHECK.dueThrow("no statement", Check.ARGUMENT, () -> example("if (x.view() == 0) {"));
    }

    private static int wrongAnswers(String... lines) throws IOException, ReflectiveOperationException {
        return example(lines).wrong().size();
    }

    private static Example example(String... lines) {
        List<String> text = new ArrayList<>(List.of("words", "```java", "SpecOrder x = new SpecOrder(-1); // new"));
        text.addAll(List.of(lines));
        text.add("```");
        return Example.of(text).get(0);
    }

    private static void tableHasEachCall(List<String> text) {
        CHECK.about("the table of calls in README.md");
        TreeSet<String> names = new TreeSet<>();
        for (Method m : face()) {
            names.add(m.getName());
            String row = row(text, m.getName());
            CHECK.due("arguments of " + m.getName(), arguments(row), m.getParameterCount());
            CHECK.due("exceptions of " + m.getName(), row.split("Exception`").length - 1, m.getExceptionTypes().length);
            for (Class<?> thrown : m.getExceptionTypes()) {
                CHECK.due(thrown.getSimpleName() + " of " + m.getName(),
                        row.contains("`" + thrown.getSimpleName() + "`: "), true);
            }
        }
        CHECK.due("calls in it", text.stream().filter(line -> line.matches("\\| `\\w+\\(.*")).count(), names.size());
    }

    /** The row of a call; one without arguments and exceptions if there is none. */
    private static String row(List<String> text, String name) {
        return text.stream().filter(line -> line.startsWith("| `" + name + "(")).findFirst().orElse("()");
    }

    private static int arguments(String row) {
        String inside = row.substring(row.indexOf('(') + 1, row.indexOf(')'));
        return inside.isEmpty() ? 0 : inside.split(", ").length;
    }

    private static void saysHowToRunTheTests(List<String> text) {
        CHECK.about("how to run the tests in README.md");
        int heading = text.indexOf("## How to run its tests");
        CHECK.due("there is a heading", heading >= 0, true);
        CHECK.due("the command", text.subList(heading + 1, text.size()).contains("    .ci/run"), true);
        CHECK.due("it can be run", Files.isExecutable(Path.of(".ci", "run")), true);
    }

    private static List<Method> face() {
        List<Method> face = new ArrayList<>();
        for (Method m : SpecOrder.class.getDeclaredMethods()) {
            if (Modifier.isPublic(m.getModifiers())) {
                face.add(m);
            }
        }
        return face;
    }
}
