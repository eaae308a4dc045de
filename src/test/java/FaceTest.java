import java.lang.reflect.Constructor;
import java.lang.reflect.Executable;
import java.lang.reflect.Field;
import java.lang.reflect.Method;
import java.lang.reflect.Modifier;
import java.util.Arrays;
import java.util.List;
import java.util.TreeSet;
import java.util.regex.Matcher;
import java.util.regex.Pattern;

/** The class's face is the document's and no more, and no argument brings another exception than it names. */
public final class FaceTest {
    private static final String[] FACE = {
        "deliver(int)boolean", "echo(int,int)boolean throws IllegalArgumentException",
        "flood(int)int throws IllegalArgumentException",
        "issue(int,int,int)int throws IllegalArgumentException,IllegalStateException",
        "lie(int,int)boolean throws IllegalArgumentException", "lose(int)boolean",
        "message(int,int)int throws NoSuchElementException", "messages()int",
        "patience(int)boolean throws IllegalArgumentException",
        "replica(int,int)int throws IllegalArgumentException",
        "request(int,int)int throws NoSuchElementException", "retry(int)int throws NoSuchElementException",
        "view()int"};
    private static final Pattern DECLARED = Pattern.compile("    public (\\w+) (\\w+\\(.*\\))( throws .*)?;");
    private static final int[] ODD = {Integer.MIN_VALUE, -601, -2, -1, 0, 1, 2, 3, 4, 5, 6, 7, 9, 10, 11, 12, 13, 21,
        22, 29, 30, 33, 34, 64, 599, 600, 601, Integer.MAX_VALUE};
    private static final Check CHECK = new Check();

    public static void main(String[] args) {
        CHECK.about("the face");
        documentsFace();
        face();
        for (int faulty = -1; faulty < 4; faulty++) {
            for (int requests : new int[] {0, 2, 12}) {
                for (int odd : ODD) {
                    CHECK.about("faulty " + faulty + ", " + requests + " requests, " + odd);
                    oddNumber(fresh(faulty, requests), requests, odd);
                    oddReplicaAndRequest(fresh(faulty, requests), faulty, requests, odd);
                    oddOp(fresh(faulty, requests), requests, odd);
                }
            }
        }
        CHECK.end();
    }

    /** FACE is the document's: a call that is new or changed there shows here. */
    private static void documentsFace() {
        List<String> document = Part.lines();
        if (document == null) {
            return;
        }
        TreeSet<String> methods = new TreeSet<>();
        for (String line : document) {
            Matcher declared = DECLARED.matcher(line);
            if (declared.matches()) {
                String thrown = declared.group(3) == null ? "" : declared.group(3).replace(", ", ",");
                String types = declared.group(2).replaceAll(" \\w+(?=[,)])", "").replace(", ", ",");
                methods.add(types + declared.group(1) + thrown);
            }
        }
        if (!methods.equals(new TreeSet<>(Arrays.asList(FACE)))) {
            CHECK.fail("the document's methods are " + methods);
        }
        CHECK.due("its constant", document.contains("    public static final int NONE = -1;"), true);
        CHECK.due("its constructor", document.contains("    public SpecOrder(int faulty);"), true);
        long members = document.stream().filter(line -> line.startsWith("    public ")).count();
        CHECK.due("its members", members, FACE.length + 2);
    }

    private static void face() {
        TreeSet<String> methods = new TreeSet<>();
        TreeSet<String> names = new TreeSet<>();
        for (Method m : SpecOrder.class.getDeclaredMethods()) {
            if (!Modifier.isPrivate(m.getModifiers())) {
                methods.add(m.getName() + types(m) + m.getReturnType().getSimpleName() + thrown(m));
                names.add(m.getName());
                CHECK.due(m.getName() + " is public, not static", m.getModifiers(), Modifier.PUBLIC);
            }
        }
        if (!methods.equals(new TreeSet<>(Arrays.asList(FACE)))) {
            CHECK.fail("the methods are " + methods);
        }
        for (Method m : SpecOrder.class.getDeclaredMethods()) {
            if (Modifier.isPrivate(m.getModifiers()) && names.contains(m.getName())) {
                CHECK.fail("a private method bears the name " + m.getName());
            }
        }
        for (Field f : SpecOrder.class.getDeclaredFields()) {
            boolean none = f.getName().equals("NONE");
            int want = none ? Modifier.PUBLIC | Modifier.STATIC | Modifier.FINAL : Modifier.PRIVATE;
            CHECK.due("modifiers of " + f.getName(), f.getModifiers() & (none ? -1 : Modifier.PRIVATE), want);
        }
        Constructor<?>[] constructors = SpecOrder.class.getDeclaredConstructors();
        CHECK.due("constructors", constructors.length, 1);
        CHECK.due("it is public", constructors[0].getModifiers(), Modifier.PUBLIC);
        String taken = types(constructors[0]) + thrown(constructors[0]);
        CHECK.due("it takes an int and throws nothing", taken.equals("(int)"), true);
        CHECK.due("NONE", SpecOrder.NONE, -1);
        CHECK.due("the class is public and final", SpecOrder.class.getModifiers(), Modifier.PUBLIC | Modifier.FINAL);
    }

    private static String types(Executable e) {
        StringBuilder text = new StringBuilder("(");
        for (Class<?> c : e.getParameterTypes()) {
            text.append(text.length() > 1 ? "," : "").append(c.getSimpleName());
        }
        return text.append(")").toString();
    }

    private static String thrown(Executable e) {
        StringBuilder text = new StringBuilder();
        for (Class<?> c : e.getExceptionTypes()) {
            text.append(text.length() > 0 ? "," : " throws ").append(c.getSimpleName());
        }
        return text.toString();
    }

    /** An object in the midst of its work, with messages of all kinds under way. */
    private static SpecOrder fresh(int faulty, int requests) {
        SpecOrder x = new SpecOrder(faulty);
        for (int i = 0; i < requests; i++) {
            x.issue(i % 3, i % 4, i);
            x.deliver(x.messages() - 1);
        }
        for (int i = 0; i < requests; i++) {
            x.flood(5 * i);
            x.retry(i);
        }
        return x;
    }

    private static boolean isReplica(int number) {
        return number >= 0 && number <= 3;
    }

    private static void oddNumber(SpecOrder x, int requests, int a) {
        boolean request = a >= 0 && a < requests;
        boolean message = a >= 0 && a < x.messages();
        for (int b : ODD) {
            boolean ofReplica = b >= 0 && b <= 6 || b >= 10 && b <= 21 || b >= 30 && b <= 33;
            same("replica", isReplica(a) && ofReplica ? null : Check.ARGUMENT, () -> x.replica(a, b));
            same("message", message && b >= 0 && b <= 6 ? null : Check.ELEMENT, () -> x.message(a, b));
            same("request", request && b >= 0 && b <= 4 ? null : Check.ELEMENT, () -> x.request(a, b));
        }
        same("patience", isReplica(a) ? null : Check.ARGUMENT, () -> x.patience(a));
        same("retry", request ? null : Check.ELEMENT, () -> x.retry(a));
        same("deliver", null, () -> x.deliver(a));
        same("lose", null, () -> x.lose(a));
        same("flood", a >= 0 ? null : Check.ARGUMENT, () -> x.flood(a));
        x.flood(0);
        CHECK.due("all is delivered or lost", x.flood(0), 0);
    }

    private static void oddReplicaAndRequest(SpecOrder x, int faulty, int requests, int a) {
        for (int b : ODD) {
            boolean right = isReplica(a) && a != faulty && b >= 0 && b < requests;
            same("lie, request " + b, right ? null : Check.ARGUMENT, () -> x.lie(a, b));
            same("echo, request " + b, right ? null : Check.ARGUMENT, () -> x.echo(a, b));
        }
    }

    private static void oddOp(SpecOrder x, int requests, int a) {
        int left = 12 - requests;
        for (int key : ODD) {
            boolean right = a >= 0 && a <= 2 && key >= 0 && key <= 3;
            // which of both exceptions comes where both are due is left open
            if (right || left > 0) {
                Class<? extends RuntimeException> due = !right ? Check.ARGUMENT : left > 0 ? null : Check.STATE;
                same("issue, key " + key, due, () -> x.issue(a, key, 0));
            }
            left -= right && left > 0 ? 1 : 0;
        }
    }

    private static void same(String call, Class<? extends RuntimeException> want, Runnable run) {
        if (want != null) {
            CHECK.dueThrow(call, want, run);
            return;
        }
        try {
            run.run();
        } catch (RuntimeException e) {
            CHECK.fail(call + " threw " + e);
        }
    }
}
