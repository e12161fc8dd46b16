import java.io.IOException;
import java.nio.charset.StandardCharsets;
import java.nio.file.Files;
import java.nio.file.Path;
import java.util.List;
import java.util.regex.Matcher;
import java.util.regex.Pattern;

/**
 * Writes the test ReadmeRun from README.md: each block of Java becomes a method, and each call with a comment behind it
 * is held against what the comment begins with.
 */
public final class ReadmeExamples {
    private static final Pattern CALL =
        Pattern.compile("\\s*(x\\.\\w+\\(.*\\));\\s*// (NONE|-?\\d+|throws \\w+)(:.*)?");

    private final StringBuilder methods = new StringBuilder();
    private final StringBuilder calls = new StringBuilder();
    private int blocks = 0;

    private ReadmeExamples() {
    }

    public static void main(String[] args) throws IOException {
        ReadmeExamples examples = new ReadmeExamples();
        examples.read(Files.readAllLines(Path.of(args[0]), StandardCharsets.UTF_8));
        System.out.println("public final class ReadmeRun {\n    public static void main(String[] args) {\n" + examples.calls
                + "        Checks.end(\"ReadmeRun\");\n    }\n" + examples.methods + "}");
    }

    private void read(List<String> lines) {
        boolean isJava = false;
        for (int i = 0; i < lines.size(); i++) {
            String line = lines.get(i);
            if (line.equals("```java")) {
                isJava = true;
                blocks++;
                calls.append("        example" + blocks + "();\n");
                methods.append("\n    private static void example" + blocks + "() {\n");
            } else if (isJava && line.equals("```")) {
                isJava = false;
                methods.append("    }\n");
            } else if (isJava) {
                methods.append("        " + held(line, i + 1) + "\n");
            }
        }
    }

    /** The line, or the check of what it says; a comment that says no answer would go unheld, so there is none. */
    private static String held(String line, int number) {
        Matcher call = CALL.matcher(line);
        if (call.matches()) {
            return "Checks.same(\"README.md, line " + number + "\", Checks.told(() -> " + call.group(1) + "), "
                    + due(call.group(2)) + ");";
        }
        if (line.contains("//")) {
            System.err.println("README.md, line " + number + " has a comment without an answer: " + line);
            System.exit(1);
        }
        return line;
    }

    private static String due(String answer) {
        if (answer.equals("NONE")) {
            return "\"\" + CornerStones.NONE";
        }
        return "\"" + answer.replace("throws ", "throws.") + "\"";
    }
}
