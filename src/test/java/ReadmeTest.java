import java.io.File;
import java.lang.reflect.Method;
import java.lang.reflect.Modifier;
import java.util.ArrayList;
import java.util.List;
import java.util.TreeSet;
import java.util.regex.Matcher;
import java.util.regex.Pattern;

/** README.md names each call of the class with what it throws, has an example of each, and names each test. */
public final class ReadmeTest {
    private static final Pattern ROW = Pattern.compile("(?m)^\\| `((?:int|long) \\w+\\([^`]*\\))` \\| ([^|]*) \\| ([^|]*)\\|$");

    private ReadmeTest() {
    }

    public static void main(String[] args) {
        String readme = Checks.read(System.getProperty("readme", "README.md"));
        Checks.same("README.md", "" + readme.isEmpty(), "false");
        TreeSet<String> names = new TreeSet<>();
        TreeSet<String> face = new TreeSet<>();
        for (Method method : CornerStones.class.getDeclaredMethods()) {
            if (Modifier.isPublic(method.getModifiers())) {
                names.add(method.getName());
                face.add(FaceTest.asText(method));
            }
        }
        calls(readme, face);
        examples(readme, names);
        tests(readme);
        Checks.end("ReadmeTest");
    }

    /** The table of calls: all of the face, each told and with its exceptions in their order. */
    private static void calls(String readme, TreeSet<String> face) {
        List<String> found = new ArrayList<>();
        Matcher row = ROW.matcher(readme);
        while (row.find()) {
            StringBuilder call = new StringBuilder(FaceTest.withoutNames(row.group(1)));
            Matcher exception = Pattern.compile("`(\\w+Exception)`: \\w").matcher(row.group(3));
            while (exception.find()) {
                call.append(' ').append(exception.group(1));
            }
            found.add(call.toString());
            Checks.same("what it answers: " + call, "" + row.group(2).isBlank(), "false");
        }
        Checks.same("the calls in the table", new TreeSet<>(found).toString(), face.toString());
        Checks.same("each one once", "" + found.size(), "" + face.size());
    }

    private static void examples(String readme, TreeSet<String> names) {
        StringBuilder code = new StringBuilder();
        Matcher block = Pattern.compile("(?s)```java\n(.*?)```").matcher(readme);
        while (block.find()) {
            code.append(block.group(1));
        }
        for (String name : names) {
            boolean shown = Pattern.compile("x\\." + name + "\\([^;]*; *// \\S").matcher(code).find();
            Checks.same("an example of " + name, "" + shown, "true");
        }
        for (String answer : new String[] {"NONE", "throws IndexOutOfBoundsException", "throws IllegalArgumentException",
            "throws IllegalStateException"}) {
            Checks.same("an example that answers " + answer, "" + code.toString().contains("// " + answer + ":"), "true");
        }
        Checks.same("an object is made", "" + code.toString().contains("new CornerStones()"), "true");
    }

    /** Each test of the project, and how all of them and one under ../shared/tests are run. */
    private static void tests(String readme) {
        File readmeFile = new File(System.getProperty("readme", "README.md")).getAbsoluteFile();
        String[] files = new File(readmeFile.getParentFile(), "src/test/java").list();
        for (String file : files == null ? new String[] {"no tests"} : files) {
            boolean isTest = !file.endsWith(".java") || file.endsWith("Test.java");
            String name = file.replace(".java", "");
            Checks.same(file + " is named", "" + (!isTest || readme.contains("`" + name + "`:")), "true");
        }
        for (String words : new String[] {"bash .ci/run", "-cp build PromisesTest", "../shared/tests/CornerStonesRuns.java"}) {
            Checks.same("the page tells " + words, "" + readme.contains(words), "true");
        }
    }
}
