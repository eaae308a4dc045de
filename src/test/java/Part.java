import java.io.IOException;
import java.nio.file.Files;
import java.nio.file.Path;
import java.util.List;

/**
 * The tests of one part of the document. Each bears the words that it tests, so that a reader finds the test
 * from the sentence and the sentence from the test. Words that do not stand in the part, and words of the part
 * that no test bears, are failures: so no sentence is left out.
 */
final class Part {
    private static final Path DOCUMENT = Path.of("..", "shared", "DOC.md");

    private final Check check;
    private final String name;
    /** The part's words; null where the document is not at hand, and nothing can be looked up. */
    private final String text;
    private final boolean[] borne;

    private Part(Check check, String name, String text) {
        this.check = check;
        this.name = name;
        this.text = text;
        borne = new boolean[text == null ? 0 : text.length()];
    }

    /** All between a heading and the next one, without the line of code at its beginning. */
    static Part section(Check check, String heading) {
        List<String> lines = lines();
        if (lines == null) {
            return new Part(check, heading, null);
        }
        StringBuilder text = new StringBuilder();
        boolean inside = false;
        for (String line : lines) {
            if (line.startsWith("## ")) {
                inside = line.equals("## " + heading);
            } else if (inside) {
                text.append(line.replaceFirst("^`[^`]*`: ", "")).append('\n');
            }
        }
        return new Part(check, heading, text.toString());
    }

    /** The one line of the document's Terms that begins so. */
    static Part terms(Check check, String firstWords) {
        List<String> lines = lines();
        if (lines == null) {
            return new Part(check, "Terms, " + firstWords, null);
        }
        String text = "";
        for (String line : lines) {
            if (line.trim().startsWith(firstWords)) {
                text = line.trim();
            }
        }
        return new Part(check, "Terms, " + firstWords, text);
    }

    /** The document; null where it is not at hand. */
    static List<String> lines() {
        if (!Files.isReadable(DOCUMENT)) {
            System.out.println(DOCUMENT + " is not here: the words of the tests are not looked up");
            return null;
        }
        try {
            return Files.readAllLines(DOCUMENT);
        } catch (IOException e) {
            throw new IllegalStateException(e);
        }
    }

    void test(String words, Runnable test) {
        check.about(name + " \"" + words + "\"");
        bear(words);
        try {
            test.run();
        } catch (RuntimeException e) {
            check.fail("threw " + e);
        }
    }

    private void bear(String words) {
        if (text == null) {
            return;
        }
        int first = text.indexOf(words);
        if (first < 0) {
            check.fail("these words are not there");
            return;
        }
        for (int i = first; i < first + words.length(); i++) {
            borne[i] = true;
        }
    }

    /** Looks for words that no test bears. */
    void end() {
        check.about(name);
        StringBuilder left = new StringBuilder();
        for (int i = 0; i < borne.length; i++) {
            if (!borne[i] && Character.isLetterOrDigit(text.charAt(i))) {
                left.append(text.charAt(i));
            }
        }
        if (left.length() > 0 || text != null && text.isEmpty()) {
            check.fail("no test bears the words " + left);
        }
    }
}
