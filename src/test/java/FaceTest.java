import java.lang.reflect.Constructor;
import java.lang.reflect.Field;
import java.lang.reflect.Method;
import java.lang.reflect.Modifier;
import java.nio.charset.StandardCharsets;
import java.nio.file.Files;
import java.nio.file.Path;
import java.util.Arrays;
import java.util.TreeSet;
import java.util.regex.Matcher;
import java.util.regex.Pattern;

/** The class has the document's public face and no more, and its file keeps to the rules that a text can show. */
public final class FaceTest {
    private static final String[] FACE = {
        "int append(int) IllegalArgumentException IllegalStateException",
        "int clearText()",
        "int errorPosition()",
        "int load() IllegalStateException",
        "int about(int) IllegalArgumentException",
        "long stones(int) IndexOutOfBoundsException",
        "int colour(int,int) IndexOutOfBoundsException IllegalArgumentException",
        "int point(int,int) IndexOutOfBoundsException IllegalArgumentException",
        "long group(int,int) IndexOutOfBoundsException IllegalArgumentException",
        "int why(int) IndexOutOfBoundsException",
        "int board(int) IllegalArgumentException",
        "int play(int) IndexOutOfBoundsException IllegalStateException",
        "int pass() IllegalStateException",
        "int set(int) IllegalArgumentException",
        "int undo() IllegalStateException",
        "int ifPlayed(int,int) IndexOutOfBoundsException IllegalArgumentException",
        "int bestTake()",
        "int choices()",
        "int ladder(int,int) IndexOutOfBoundsException IllegalArgumentException",
        "int chase(int) IndexOutOfBoundsException",
        "int lead()",
        "int runScript(int,long) IllegalArgumentException",
        "int simulate(long,int) IllegalArgumentException",
        "int save(int) IndexOutOfBoundsException",
        "int restore(int) IndexOutOfBoundsException IllegalStateException"};

    private FaceTest() {
    }

    public static void main(String[] args) throws Exception {
        face();
        faceOfDocument();
        classesInside();
        source(Files.readString(Path.of(System.getProperty("source")), StandardCharsets.ISO_8859_1));
        Checks.end("FaceTest");
    }

    private static void face() {
        TreeSet<String> found = new TreeSet<>();
        for (Method method : CornerStones.class.getDeclaredMethods()) {
            if (!Modifier.isPrivate(method.getModifiers()) && !method.isSynthetic()) {
                found.add(asText(method));
                Checks.same("public " + method, "" + Modifier.toString(method.getModifiers()), "public");
            }
        }
        Checks.same("the methods", found.toString(), new TreeSet<>(Arrays.asList(FACE)).toString());
        for (Constructor<?> constructor : CornerStones.class.getDeclaredConstructors()) {
            Checks.same("the constructor", constructor.toString(), "public CornerStones()");
        }
        for (Field field : CornerStones.class.getDeclaredFields()) {
            boolean isNone = field.toString().equals("public static final int CornerStones.NONE");
            Checks.same("" + field, "" + (isNone || Modifier.isPrivate(field.getModifiers())), "true");
        }
        Checks.same("the class", Modifier.toString(CornerStones.class.getModifiers()), "public final");
        Checks.same("its superclass", CornerStones.class.getSuperclass().getName(), "java.lang.Object");
    }

    /** The document's own face, when the document is there: the same methods, with the same exceptions in their order. */
    private static void faceOfDocument() {
        String document = Checks.document();
        Matcher block = Pattern.compile("(?s)```java(.*?)```").matcher(document);
        if (!block.find()) {
            Checks.same("the document without a face", document, "");
            return;
        }
        TreeSet<String> found = new TreeSet<>();
        Matcher method = Pattern.compile("public ((?:int|long) [^;=]*\\))([^;]*);").matcher(block.group(1));
        while (method.find()) {
            found.add(withoutNames(method.group(1)) + method.group(2).replace(" throws", "").replace(",", ""));
        }
        Checks.same("the methods of the document", found.toString(), new TreeSet<>(Arrays.asList(FACE)).toString());
    }

    /** A signature with the types alone: int point(int k, int what) becomes int point(int,int). */
    static String withoutNames(String signature) {
        return signature.replaceAll("(int|long) \\w+([,)])", "$1$2").replace(", ", ",");
    }

    /** The comments that part the face stand ahead of the calls that the document names. */
    private static void sectionsOfFace(String text) {
        Pattern sentence = Pattern.compile("Ahead of the calls ([^:]*) the interface says: (---- [^.]*)\\.");
        Matcher section = sentence.matcher(Checks.document());
        while (section.find()) {
            int from = text.indexOf("// " + section.group(2) + "\n");
            int to = from < 0 ? -1 : text.indexOf("// ----", from + 1);
            String part = from < 0 ? "" : text.substring(from, to < 0 ? text.length() : to);
            for (String name : section.group(1).replace("`", "").split(", ")) {
                Checks.same(name + " behind " + section.group(2), "" + part.contains(" " + name + "("), "true");
            }
        }
    }

    static String asText(Method method) {
        StringBuilder text = new StringBuilder(method.getReturnType() + " " + method.getName());
        text.append(Arrays.toString(method.getParameterTypes()).replace('[', '(').replace(']', ')').replace(" ", ""));
        for (Class<?> thrown : method.getExceptionTypes()) {
            text.append(' ').append(thrown.getSimpleName());
        }
        return text.toString();
    }

    private static void classesInside() {
        TreeSet<String> names = new TreeSet<>();
        for (Method method : CornerStones.class.getDeclaredMethods()) {
            if (Modifier.isPublic(method.getModifiers())) {
                names.add(method.getName());
            }
        }
        Class<?>[] inside = CornerStones.class.getDeclaredClasses();
        Checks.same("some twelve classes at most", "" + (inside.length <= 12), "true");
        for (Class<?> one : inside) {
            int modifiers = one.getModifiers();
            Checks.same(one + " is static", "" + Modifier.isStatic(modifiers), "true");
            Checks.same(one + " is not public", "" + (Modifier.isPublic(modifiers) || Modifier.isProtected(modifiers)), "false");
            Checks.same(one + " has few fields", "" + (one.getDeclaredFields().length <= 20), "true");
            for (Method method : one.getDeclaredMethods()) {
                Checks.same(method + " has a name of its own", "" + names.contains(method.getName()), "false");
                Checks.same(method + " has few parameters", "" + (method.getParameterCount() <= 7), "true");
            }
        }
    }

    private static void source(String text) {
        String[] ruledOut = {"import ", "package ", "catch ", "finally", "synchronized", "assert ", "->", "::", "System.",
            "Thread", "Random", "Object ", "hashCode", "toString", "equals(", "static {", "Exact", "while "};
        for (String word : ruledOut) {
            Checks.same("the file has no '" + word + "'", "" + text.contains(word), "false");
        }
        boolean plain = true;
        for (int i = 0; i < text.length(); i++) {
            plain &= text.charAt(i) == '\n' || (text.charAt(i) >= 32 && text.charAt(i) < 127);
        }
        Checks.same("the file is plain ASCII", "" + plain, "true");
        sectionsOfFace(text);
    }
}
