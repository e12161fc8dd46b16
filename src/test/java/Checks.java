import java.io.IOException;
import java.nio.charset.StandardCharsets;
import java.nio.file.Files;
import java.nio.file.Path;
import java.util.ArrayList;
import java.util.List;
import java.util.TreeSet;

/** Counts what the tests of one main method find; every wrong answer is printed. */
final class Checks {
    interface Call {
        long answer();
    }

    static final String INDEX = "throws.IndexOutOfBoundsException";
    static final String ARGUMENT = "throws.IllegalArgumentException";
    static final String STATE = "throws.IllegalStateException";

    private static int checked = 0;
    private static int wrong = 0;
    private static String title = "";
    private static final TreeSet<String> TITLES = new TreeSet<>();

    private Checks() {
    }

    /** What a call answers, as text: its number, or the name of what it throws. */
    static String told(Call call) {
        try {
            return Long.toString(call.answer());
        } catch (RuntimeException e) {
            return "throws." + e.getClass().getSimpleName();
        }
    }

    static void due(String name, Call call, long want) {
        same(name, told(call), Long.toString(want));
    }

    static void thrown(String name, Call call, String want) {
        same(name, told(call), want);
    }

    static void same(String name, String got, String want) {
        checked++;
        if (!got.equals(want)) {
            wrong++;
            if (wrong <= 50) {
                System.out.println(title + name + " answered " + got + ", due is " + want);
            }
        }
    }

    /** Runs the test of one sentence: what it finds wrong is told with the promise and the sentence that it holds. */
    static void holds(String promise, String sentence, Runnable test) {
        int checkedBefore = checked;
        int wrongBefore = wrong;
        same(promise + ": a title of its own, " + sentence, "" + TITLES.add(promise + " | " + sentence), "true");
        same(promise + ": a sentence of the document, " + sentence, "" + isInDocument(sentence), "true");
        title = "[" + promise + ": " + sentence + "] ";
        try {
            test.run();
        } catch (RuntimeException e) {
            same("the test", "throws " + e, "an end");
        }
        same("the test's checks", "" + (checked > checkedBefore + 2), "true");
        title = "";
        if (wrong != wrongBefore) {
            System.out.println("BROKEN  " + promise + ": " + sentence);
        }
    }

    /** How many sentences have a test that names the promise with this number. */
    static int sentencesOf(int promise) {
        int count = 0;
        for (String one : TITLES) {
            count += one.startsWith("Promise " + promise + ",") ? 1 : 0;
        }
        return count;
    }

    /** The sentences that have a test whose promise begins so. */
    static List<String> sentences(String promise) {
        List<String> found = new ArrayList<>();
        for (String one : TITLES) {
            if (one.startsWith(promise)) {
                found.add(one.substring(one.indexOf(" | ") + 3));
            }
        }
        return found;
    }

    private static boolean isInDocument(String sentence) {
        String document = document();
        return document.isEmpty() || plain(document).contains(plain(sentence));
    }

    /** The whole document; empty if it is not there. */
    static String document() {
        String file = System.getProperty("document", "");
        return file.isEmpty() ? "" : read(file);
    }

    static String read(String file) {
        try {
            return Files.readString(Path.of(file), StandardCharsets.UTF_8);
        } catch (IOException e) {
            return "";
        }
    }

    /** The words alone, as the document breaks its lines anywhere. */
    static String plain(String text) {
        return text.replace("`", "").replaceAll("\\s+", " ");
    }

    static void end(String name) {
        System.out.println(name + ": " + checked + " checks, " + wrong + " wrong"
                + (TITLES.isEmpty() ? "" : ", " + TITLES.size() + " sentences"));
        if (wrong != 0 || checked == 0) {
            System.exit(1);
        }
    }
}
