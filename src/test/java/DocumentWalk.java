import java.util.ArrayList;
import java.util.List;
import java.util.regex.Matcher;
import java.util.regex.Pattern;

/**
 * Goes through the document from its first line to its last: each of its words must stand in a sentence that has a test,
 * in a promise's section one that names this promise, or in one of those that no call can show.
 */
final class DocumentWalk {
    // a summary, what is left free, and the headings; each sentence behind a summary has a test of its own
    private static final String[] NOT_SHOWN = {
        "Stones that are laid by turns on a small board, as in go: groups with liberties, groups that are taken, points where"
            + " no stone may be laid because it would be taken at once or the position would come again, eyes and false eyes,"
            + " areas, groups that are chased up a ladder to the edge, captives, passes, two rules for what may come again.",
        "what later calls answer is free.",
        "It tells whether and why a stone may not be laid, what it would take, which groups are about to be taken, whether a"
            + " ladder works, where a group escapes, who has more of the board.",
        "How the state is held inside the object is free, as are the speed of each call, the text of toString and the"
            + " behaviour of equals and hashCode.",
        "Use of one object from several threads at once is not promised to be safe.",
        "Nothing is promised beyond the answers and state changes described above, and nothing about an object after its"
            + " 512th call.",
        "THE BOARD", "MOVES", "EYES, AREAS", "LADDERS", "TEXT", "ACTIONS AND UNDO", "EXCEPTIONS", "The constants:"};
    // FaceTest holds these against the class
    private static final String FACE = "(?s)```java.*?```";
    private static final String SECTIONS_OF_FACE = "(?s)Ahead of the calls[^:]*?the interface says: ---- [^.]*\\.";
    private static final String SIGNATURE = "`[^`]*\\([^`]*\\)[^`]*`:";
    // a parameter's name alone says nothing that a call could break
    private static final String[] NAMES = {"- what:", "- c: colour", "- k: point"};

    private DocumentWalk() {
    }

    static void run() {
        String document = Checks.document();
        if (document.isEmpty()) {
            return;
        }
        int promises = 0;
        for (String section : document.split("(?m)^#+ ")) {
            Matcher promise = Pattern.compile("Promise \\d+").matcher(section);
            boolean isPromise = promise.lookingAt();
            promises += isPromise ? 1 : 0;
            walk(section, isPromise ? promise.group() + "," : "");
        }
        Checks.same("the promises of the document", "" + promises, "26");
    }

    private static void walk(String section, String promise) {
        int end = section.indexOf('\n');
        String heading = end < 0 ? section : section.substring(0, end);
        String body = end < 0 ? "" : section.substring(end);
        body = body.replaceAll(FACE, " ").replaceAll(SECTIONS_OF_FACE, " ").replaceAll(SIGNATURE, " ");
        List<String> sentences = new ArrayList<>(Checks.sentences(promise));
        sentences.addAll(List.of(NOT_SHOWN));
        Checks.same("what has no test in '" + heading + "'", leftOf(body, sentences).toString(), "[]");
    }

    private static List<String> leftOf(String body, List<String> sentences) {
        String named = Checks.plain(body);
        boolean[] held = new boolean[named.length()];
        for (String sentence : sentences) {
            mark(held, named, Checks.plain(sentence));
        }
        for (String name : NAMES) {
            mark(held, named, name);
        }
        StringBuilder rest = new StringBuilder();
        for (int i = 0; i < held.length; i++) {
            rest.append(held[i] ? '\n' : named.charAt(i));
        }
        List<String> found = new ArrayList<>();
        for (String one : rest.toString().split("\n+")) {
            if (one.matches("(?s).*\\w.*")) {
                found.add(one.trim());
            }
        }
        return found;
    }

    private static void mark(boolean[] held, String text, String sentence) {
        for (int at = text.indexOf(sentence); at >= 0; at = text.indexOf(sentence, at + 1)) {
            for (int i = at; i < at + sentence.length(); i++) {
                held[i] = true;
            }
        }
    }
}
