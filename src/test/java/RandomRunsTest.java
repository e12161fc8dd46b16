import java.util.Random;
import java.util.TreeMap;

/** Long runs of calls, each answer held against the Reference; the seeds are fixed, so that a fault comes again. */
public final class RandomRunsTest {
    private static final int RUNS = 1000;
    private static final int CALLS = 500;
    // behind this many calls of an object its answers are free
    private static final int MOST_CALLS = 512;
    private static final int[] ODD = {-1, -2, 2, 3, 6, 7, 8, 9, 16, 25, 36, 48, 49, 50, 64, 65, 256, Integer.MIN_VALUE, Integer.MAX_VALUE};
    private static final String[] NAMES = {"append", "clearText", "errorPosition", "load", "about", "stones", "colour", "point",
        "group", "why", "board", "play", "pass", "set", "undo", "ifPlayed", "bestTake", "choices", "ladder", "chase", "lead",
        "runScript", "simulate", "save", "restore"};

    private final Random random;
    private final CornerStones x = new CornerStones();
    private final Reference due = new Reference();
    private final int run;
    private int made = 0;
    private static final TreeMap<String, Integer> SEEN = new TreeMap<>();

    private RandomRunsTest(int run) {
        this.run = run;
        this.random = new Random(1000 + run);
    }

    public static void main(String[] args) {
        for (int run = 0; run < RUNS; run++) {
            new RandomRunsTest(run).goOn();
        }
        int[] rare = {seen("why 3 with setting 0"), seen("why 3 with setting 1"), seen("ladder 1"), seen("ladder 0"),
            seen("chase, the higher liberty"), seen("point 3 is 1"), seen("point 3 is 2"), seen("point 5 is 2"), seen("why 4"), seen("bestTake, two stones or more"),
            seen("undo refused"), seen("a script without a failure"), seen("a script that fails behind its first command")};
        for (int count : rare) {
            Checks.same("a rare answer is met", Boolean.toString(count >= 20), "true");
        }
        System.out.println(SEEN);
        Checks.end("RandomRunsTest");
    }

    private static int seen(String what) {
        return SEEN.getOrDefault(what, 0);
    }

    private static void saw(String what) {
        SEEN.merge(what, 1, Integer::sum);
    }

    private void goOn() {
        if (run % 3 == 0) {
            call(10, 3 + random.nextInt(5), 0, 0);
        }
        if (run % 3 == 1) {
            call(10, 3, 0, 0);
        }
        if (run % 2 == 0) {
            call(13, 1, 0, 0);
        }
        int calls = 10;
        if (run % 10 == 9) {
            // close to the most moves that there can be
            for (int i = 0; i < 105; i++) {
                call(12, 0, 0, 0);
            }
            calls += 105;
        }
        while (calls < CALLS) {
            calls += move();
            int questions = random.nextInt(4);
            for (int i = 0; i < questions; i++) {
                ask();
            }
            calls += questions;
        }
    }

    /** A step of the game; answers how many calls it made at most. */
    private int move() {
        int dice = random.nextInt(100);
        if (dice < 60) {
            return playAndLookBack(likelyPoint());
        } else if (dice < 75) {
            chaseOn();
        } else if (dice < 84) {
            call(12, 0, 0, 0);
        } else if (dice < 90) {
            call(14, 0, 0, 0);
        } else if (dice < 94) {
            call(23 + random.nextInt(2), random.nextInt(2), 0, 0);
        } else if (dice < 96) {
            call(13, random.nextInt(2), 0, 0);
        } else if (dice < 97 && random.nextInt(3) == 0) {
            call(10, random.nextInt(4) == 0 ? odd() : 3 + random.nextInt(5), 0, 0);
        } else if (dice < 98 && random.nextInt(4) == 0) {
            return writeAndLoad();
        } else if (dice < 99) {
            call(11, odd(), 0, 0);
        }
        return 2;
    }

    /** Lays a stone; where it takes one, the position may be about to come again. */
    private int playAndLookBack(int k) {
        long before = due.stones(0) | due.stones(1);
        call(11, k, 0, 0);
        long taken = before & ~(due.stones(0) | due.stones(1));
        if (taken == 0 || k < 0 || k >= points()) {
            return 1;
        }
        int back = Long.numberOfTrailingZeros(taken);
        if (random.nextInt(3) == 0) {
            call(12, 0, 0, 0);
            call(12, 0, 0, 0);
        }
        call(9, back, 0, 0);
        call(11, back, 0, 0);
        return 5;
    }

    private void chaseOn() {
        int k = random.nextInt(points());
        int first = due.chase(k);
        if (first == -1) {
            call(11, likelyPoint(), 0, 0);
        } else {
            call(11, first, 0, 0);
            long left = due.group(k, 1);
            if (left != 0) {
                call(11, Long.numberOfTrailingZeros(left), 0, 0);
            }
        }
    }

    private int likelyPoint() {
        int best = due.bestTake();
        if (best != -1 && random.nextInt(3) == 0) {
            return best;
        }
        int k = random.nextInt(points());
        for (int i = 0; i < 6 && due.why(k) != 0; i++) {
            k = random.nextInt(points());
        }
        return k;
    }

    private int writeAndLoad() {
        call(1, 0, 0, 0);
        StringBuilder text = new StringBuilder("B").append(random.nextInt(40) == 0 ? 8 : 3 + random.nextInt(5));
        text.append(random.nextBoolean() ? "s" : "");
        int moves = random.nextInt(random.nextInt(8) == 0 ? 70 : 30);
        for (int i = 0; i < moves; i++) {
            int dice = random.nextInt(60);
            int k = random.nextInt(dice == 0 ? 60 : dice < 20 ? 9 : 36);
            text.append(dice < 50 ? (k < 10 ? "0" + k : "" + k) : dice == 59 ? "s" : "p");
        }
        for (int i = 0; i < text.length(); i++) {
            call(0, text.charAt(i), 0, 0);
        }
        call(2, 0, 0, 0);
        call(3, 0, 0, 0);
        return text.length() + 3;
    }

    private void ask() {
        int k = random.nextInt(12) == 0 ? odd() : random.nextInt(points());
        int what = random.nextInt(20) == 0 ? odd() : random.nextInt(6);
        switch (random.nextInt(18)) {
            case 0: call(4, random.nextInt(9), 0, 0); break;
            case 1: call(5, random.nextInt(2), 0, 0); break;
            case 2: call(6, random.nextInt(8) == 0 ? odd() : random.nextInt(2), what, 0); break;
            case 3:
            case 4: call(7, k, what, 0); break;
            case 5: call(8, k, random.nextInt(3), 0); break;
            case 6:
            case 7: call(9, k, 0, 0); break;
            case 8: call(15, k, random.nextInt(5), 0); break;
            case 9: call(16, 0, 0, 0); break;
            case 10: call(17, 0, 0, 0); break;
            case 11:
            case 12: call(18, k, random.nextInt(2), 0); break;
            case 13: call(19, k, 0, 0); break;
            case 14: call(20, 0, 0, 0); break;
            case 15: call(22, random.nextInt(10) == 0 ? odd() : 1 + random.nextInt(100), 0, random.nextLong()); break;
            case 16: askScript(); break;
            default: oddCall(); break;
        }
    }

    private void askScript() {
        int n = random.nextInt(20) == 0 ? odd() : 1 + random.nextInt(4);
        long script = 0;
        for (int i = 0; i < (n >= 1 && n <= 4 ? n : 2); i++) {
            script = script * 10000 + command();
        }
        if (random.nextInt(20) == 0) {
            script = random.nextBoolean() ? random.nextLong() : random.nextInt(100000);
        }
        if (n >= 1 && n <= 4 && random.nextInt(12) == 0) {
            long limit = (long) Math.pow(10, 4 * n);
            script = limit - 1 + random.nextInt(2);
        }
        call(21, n, 0, script);
    }

    /** A command that often succeeds, as what it asks is looked up. */
    private int command() {
        int k = random.nextInt(10) == 0 ? random.nextInt(100) : random.nextInt(points());
        boolean isPoint = k < points();
        int c = random.nextInt(12) == 0 ? random.nextInt(10) : random.nextInt(2);
        int off = random.nextInt(4) == 0 ? random.nextInt(3) - 1 : 0;
        switch (random.nextInt(11)) {
            case 0: return random.nextInt(10000);
            case 1: return 1000 + 10 * k + (random.nextInt(10) == 0 ? 1 : 0);
            case 2: return random.nextInt(6) == 0 ? 2000 + random.nextInt(200) : 2000;
            case 3: return 3000 + 10 * k + (isPoint ? Math.max(0, due.point(k, 0)) : c);
            case 4: return 4000 + 10 * k + digit(isPoint ? due.point(k, 2) + off : 0);
            case 5: return 5000 + 10 * k + digit(isPoint ? due.why(k) + off : 0);
            case 6: return 6000 + 100 * c + (c < 2 ? number(due.colour(c, 1) + off) : 0);
            case 7: return 7000 + 10 * k + (isPoint ? Math.max(0, due.ladder(k, 0)) : 0);
            case 8: return 8000 + 100 * c + (c < 2 ? number(due.colour(c, 2) + off) : 0);
            default: return 9000 + 10 * k + digit(isPoint ? due.point(k, 3) + off : 0);
        }
    }

    private static int digit(int n) {
        return Math.max(0, Math.min(9, n));
    }

    private static int number(int n) {
        return Math.max(0, Math.min(99, n));
    }

    private void oddCall() {
        int method = random.nextInt(NAMES.length);
        boolean endsTheGame = method == 3 || method == 10 || method == 24 || method == 1;
        if (!endsTheGame || random.nextInt(20) == 0) {
            call(method, odd(), random.nextInt(3) == 0 ? odd() : random.nextInt(3), random.nextLong());
        }
    }

    private int odd() {
        return ODD[random.nextInt(ODD.length)];
    }

    private int points() {
        return due.about(0) * due.about(0);
    }

    private void call(int method, int a, int b, long c) {
        if (made >= MOST_CALLS) {
            return;
        }
        made++;
        int setting = due.about(7);
        long liberties = method == 19 && a >= 0 && a < points() ? due.group(a, 1) : 0;
        String want = Checks.told(() -> ofReference(method, a, b, c));
        String got = Checks.told(() -> ofClass(method, a, b, c));
        Checks.same("run " + run + ": " + NAMES[method] + "(" + a + ", " + b + ", " + c + ")", got, want);
        note(method, b, want, setting, liberties);
    }

    private static void note(int method, int b, String answer, int setting, long liberties) {
        if (method == 9 && answer.equals("3")) {
            saw("why 3 with setting " + setting);
        } else if (method == 9 && answer.equals("4")) {
            saw("why 4");
        } else if (method == 18) {
            saw("ladder " + answer);
        } else if (method == 19 && Long.bitCount(liberties) == 2 && !answer.equals("-1")) {
            boolean lower = answer.equals("" + Long.numberOfTrailingZeros(liberties));
            saw(lower ? "chase, the lower liberty of two" : "chase, the higher liberty");
        } else if (method == 7 && (b == 3 || b == 5)) {
            saw("point " + b + " is " + answer);
        } else if (method == 14 && answer.equals(Checks.STATE)) {
            saw("undo refused");
        } else if (method == 16) {
            saw(answer.equals("-1") ? "bestTake, none" : "bestTake, some");
        } else if (method == 11 && answer.length() == 1 && !answer.equals("0")) {
            saw(answer.equals("1") ? "bestTake, one stone" : "bestTake, two stones or more");
        } else if (method == 21) {
            saw(answer.equals("-1") ? "a script without a failure" : answer.compareTo("0") > 0 && answer.length() == 1
                    ? "a script that fails behind its first command" : "a script that fails at once");
        }
    }

    private long ofClass(int method, int a, int b, long c) {
        switch (method) {
            case 0: return x.append(a);
            case 1: return x.clearText();
            case 2: return x.errorPosition();
            case 3: return x.load();
            case 4: return x.about(a);
            case 5: return x.stones(a);
            case 6: return x.colour(a, b);
            case 7: return x.point(a, b);
            case 8: return x.group(a, b);
            case 9: return x.why(a);
            case 10: return x.board(a);
            case 11: return x.play(a);
            case 12: return x.pass();
            case 13: return x.set(a);
            case 14: return x.undo();
            case 15: return x.ifPlayed(a, b);
            case 16: return x.bestTake();
            case 17: return x.choices();
            case 18: return x.ladder(a, b);
            case 19: return x.chase(a);
            case 20: return x.lead();
            case 21: return x.runScript(a, c);
            case 22: return x.simulate(c, a);
            case 23: return x.save(a);
            default: return x.restore(a);
        }
    }

    private long ofReference(int method, int a, int b, long c) {
        switch (method) {
            case 0: return due.append(a);
            case 1: return due.clearText();
            case 2: return due.errorPosition();
            case 3: return due.load();
            case 4: return due.about(a);
            case 5: return due.stones(a);
            case 6: return due.colour(a, b);
            case 7: return due.point(a, b);
            case 8: return due.group(a, b);
            case 9: return due.why(a);
            case 10: return due.board(a);
            case 11: return due.play(a);
            case 12: return due.pass();
            case 13: return due.set(a);
            case 14: return due.undo();
            case 15: return due.ifPlayed(a, b);
            case 16: return due.bestTake();
            case 17: return due.choices();
            case 18: return due.ladder(a, b);
            case 19: return due.chase(a);
            case 20: return due.lead();
            case 21: return due.runScript(a, c);
            case 22: return due.simulate(c, a);
            case 23: return due.save(a);
            default: return due.restore(a);
        }
    }
}
