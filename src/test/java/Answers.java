import java.util.ArrayList;
import java.util.IdentityHashMap;
import java.util.List;
import java.util.Map;

/**
 * All that an object answers. Each question is put to a new object that is built the same way, so that no object is
 * used for more calls than the document allows, and also what changes the object can be asked.
 */
final class Answers {
    interface Deed {
        void on(CornerStones x);
    }

    private static final Map<Deed, List<String>> BEFORE = new IdentityHashMap<>();

    private Answers() {
    }

    /** The call throws what is due, and behind it all answers are as they were before. */
    static void refused(String name, Deed build, Deed call, String want) {
        CornerStones x = built(build);
        Checks.thrown(name, () -> does(call, x), want);
        unchanged(name, build, call);
    }

    /** Behind the call, whether it answers or throws, all answers are as they were before. */
    static void unchanged(String name, Deed build, Deed call) {
        List<String> before = BEFORE.computeIfAbsent(build, b -> of(b));
        List<String> behind = of(x -> {
            build.on(x);
            Checks.told(() -> does(call, x));
        });
        Checks.due(name + ": how many answers", () -> behind.size(), before.size());
        for (int i = 0; i < before.size() && i < behind.size(); i++) {
            Checks.same(name + ": behind it", behind.get(i), before.get(i));
        }
    }

    private static long does(Deed call, CornerStones x) {
        call.on(x);
        return 0;
    }

    private static CornerStones built(Deed build) {
        CornerStones x = new CornerStones();
        build.on(x);
        return x;
    }

    private static List<String> of(Deed build) {
        List<String> all = new ArrayList<>();
        numbers(built(build), all);
        int points = built(build).about(0) * built(build).about(0);
        for (int k = -1; k <= points; k++) {
            ofPoint(built(build), k, all);
        }
        undoing(built(build), all);
        restoring(built(build), 0, all);
        restoring(built(build), 1, all);
        loading(built(build), all);
        writing(built(build), all);
        goingOn(built(build), points, all);
        return all;
    }

    private static void tell(List<String> all, String name, Checks.Call call) {
        all.add(name + " " + Checks.told(call));
    }

    private static void numbers(CornerStones x, List<String> all) {
        state(x, all);
        for (int i = 0; i < 2; i++) {
            int c = i;
            for (int j = 0; j < 6; j++) {
                int what = j;
                tell(all, "colour " + c + ", " + what, () -> x.colour(c, what));
            }
        }
        tell(all, "bestTake", () -> x.bestTake());
        tell(all, "choices", () -> x.choices());
        tell(all, "lead", () -> x.lead());
        tell(all, "errorPosition", () -> x.errorPosition());
        tell(all, "simulate", () -> x.simulate(7, 100));
        tell(all, "simulate once", () -> x.simulate(-1, 1));
        tell(all, "runScript", () -> x.runScript(4, 2000200020002000L));
    }

    /** What there is to be told of a state in few calls. */
    private static void state(CornerStones x, List<String> all) {
        for (int i = 0; i < 8; i++) {
            int what = i;
            tell(all, "about " + what, () -> x.about(what));
        }
        for (int i = 0; i < 2; i++) {
            int c = i;
            tell(all, "stones " + c, () -> x.stones(c));
            tell(all, "captives " + c, () -> x.colour(c, 1));
        }
    }

    private static void ofPoint(CornerStones x, int k, List<String> all) {
        for (int i = 0; i < 6; i++) {
            int what = i;
            tell(all, "point " + k + ", " + what, () -> x.point(k, what));
        }
        for (int i = 0; i < 2; i++) {
            int what = i;
            tell(all, "group " + k + ", " + what, () -> x.group(k, what));
            tell(all, "ladder " + k + ", " + what, () -> x.ladder(k, what));
        }
        tell(all, "why " + k, () -> x.why(k));
        for (int i = 0; i < 4; i++) {
            int what = i;
            tell(all, "ifPlayed " + k + ", " + what, () -> x.ifPlayed(k, what));
        }
        tell(all, "chase " + k, () -> x.chase(k));
    }

    private static void undoing(CornerStones x, List<String> all) {
        for (int i = 0; i < 15; i++) {
            tell(all, "undo", () -> x.undo());
            state(x, all);
        }
    }

    private static void restoring(CornerStones x, int slot, List<String> all) {
        tell(all, "restore " + slot, () -> x.restore(slot));
        state(x, all);
        for (int i = 0; i < 49; i++) {
            int k = i;
            tell(all, "why " + k + " behind restore " + slot, () -> x.why(k));
        }
        tell(all, "undo behind restore " + slot, () -> x.undo());
        tell(all, "the other slot", () -> x.restore(1 - slot));
    }

    private static void loading(CornerStones x, List<String> all) {
        tell(all, "load", () -> x.load());
        state(x, all);
        tell(all, "undo behind load", () -> x.undo());
        tell(all, "restore 0 behind load", () -> x.restore(0));
        tell(all, "restore 1 behind load", () -> x.restore(1));
    }

    private static void writing(CornerStones x, List<String> all) {
        tell(all, "append", () -> x.append('0'));
        tell(all, "errorPosition behind append", () -> x.errorPosition());
        tell(all, "clearText", () -> x.clearText());
        tell(all, "clearText again", () -> x.clearText());
    }

    private static void goingOn(CornerStones x, int points, List<String> all) {
        for (int i = 0; i < points; i++) {
            int k = i;
            tell(all, "going on, play " + k, () -> x.play(k));
        }
        tell(all, "going on, pass", () -> x.pass());
        tell(all, "going on, undo", () -> x.undo());
        state(x, all);
    }
}
