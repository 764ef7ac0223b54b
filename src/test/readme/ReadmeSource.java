import java.io.IOException;
import java.nio.file.Files;
import java.nio.file.Path;
import java.util.ArrayList;
import java.util.List;

/** Writes the Java of README.md as a test: a line's comment is the answer that its call gives. */
public final class ReadmeSource {
    private static final String THROWS = "throws ";

    private final List<String> test = new ArrayList<>();
    private int answers = 0;

    public static void main(String[] args) throws IOException {
        ReadmeSource source = new ReadmeSource();
        source.write(Files.readAllLines(Path.of(args[0])));
        if (source.answers == 0) {
            System.out.println("no answer found in " + args[0]);
            System.exit(1);
        }
        Files.write(Path.of(args[1], "ReadmeTests.java"), source.test);
    }

    private void write(List<String> readme) {
        test.add("public final class ReadmeTests {");
        test.add("public static void main(String[] args) {");
        test.add("Check check = new Check();");
        boolean inJava = false;
        for (String line : readme) {
            if (line.startsWith("```")) {
                inJava = line.equals("```java");
            } else if (inJava) {
                writeLine(line);
            }
        }
        test.add("check.close(\"ReadmeTests\");");
        test.add("}");
        test.add("}");
    }

    private void writeLine(String line) {
        int comment = line.indexOf("//");
        if (comment < 0) {
            test.add(line);
            return;
        }
        String call = line.substring(0, comment).strip();
        String asked = call.substring(0, call.length() - 1);
        int named = asked.indexOf(" = ");
        if (named >= 0) {
            test.add(call);
            asked = asked.substring(asked.indexOf(' ') + 1, named);
        }
        answers++;
        test.add("check.due(\"" + call + "\", \"" + answer(line.substring(comment + 2)) + "\", () -> "
                + "String.valueOf(" + asked + "));");
    }

    /** What stands before a colon is the answer, what stands behind it is said to the reader. */
    private static String answer(String comment) {
        int colon = comment.indexOf(':');
        String text = (colon < 0 ? comment : comment.substring(0, colon)).strip();
        return text.startsWith(THROWS) ? "throws." + text.substring(THROWS.length()) : text;
    }
}
