import java.math.BigInteger;

/** Scripts and simulations (promises 23 and 24): digits, each command, numbers of turns, what is left out. */
final class ScriptBoundaries {
    private ScriptBoundaries() {
    }

    static void run() {
        Checks.holds("Promise 23, runScript", "n: number of commands, 1 to 4", ScriptBoundaries::numberOfCommands);
        Checks.holds("Promise 23, runScript", "script: the commands, a number of at most 4 * n digits (0 or more)",
                ScriptBoundaries::numberOfDigits);
        Checks.holds("Promise 23, runScript", "A script has 1 to 4 commands;", ScriptBoundaries::oneToFour);
        Checks.holds("Promise 23, runScript", "each is a group of four decimal digits d1 to d4, and the first command is the"
                + " highest group of the number", ScriptBoundaries::highestFirst);
        Checks.holds("Promise 23, runScript", "(with zeros before it, if it has fewer digits).", ScriptBoundaries::zerosBefore);
        Checks.holds("Promise 23, runScript", "Returns the index, from 0, of the first command that fails; NONE if all"
                + " succeed.", ScriptBoundaries::firstThatFails);
        Checks.holds("Promise 23, runScript", "Runs a script on a copy of the state.", ScriptBoundaries::onCopy);
        commands();
        failures();
        simulations();
    }

    private static void commands() {
        Checks.holds("Promise 23, runScript", "1 k k 0: play(kk).", ScriptBoundaries::command1);
        Checks.holds("Promise 23, runScript", "2 0 0 0: pass().", ScriptBoundaries::command2);
        Checks.holds("Promise 23, runScript", "3 k k c: succeeds if the point kk has a stone of the colour c.",
                ScriptBoundaries::command3);
        Checks.holds("Promise 23, runScript", "4 k k n: succeeds if the group of the stone at kk has at least n liberties.",
                ScriptBoundaries::command4);
        Checks.holds("Promise 23, runScript", "5 k k w: succeeds if why(kk) is w.", ScriptBoundaries::command5);
        Checks.holds("Promise 23, runScript", "6 c n n: succeeds if the colour c has at least nn captives.",
                ScriptBoundaries::command6);
        Checks.holds("Promise 23, runScript", "8 c n n: succeeds if the area of the colour c is at least nn.",
                ScriptBoundaries::command8);
        Checks.holds("Promise 23, runScript", "9 k k e: succeeds if point(kk, 3) is e.", ScriptBoundaries::command9);
    }

    private static void failures() {
        Checks.holds("Promise 23, runScript", "The commands 1 and 2 fail if the method would throw an exception;",
                ScriptBoundaries::wouldThrow);
        Checks.holds("Promise 23, runScript", "commands with points or colours that do not exist fail,",
                ScriptBoundaries::noSuchPoints);
        Checks.holds("Promise 23, runScript", "4 and 7 with an empty point too,", ScriptBoundaries::emptyPoints);
        Checks.holds("Promise 23, runScript", "and so does any other group (also one with another digit where a 0 is"
                + " written).", ScriptBoundaries::otherGroups);
        Checks.holds("Promise 23, runScript", "kk and nn are decimal numbers.", ScriptBoundaries::decimalNumbers);
    }

    private static void simulations() {
        Checks.holds("Promise 24, simulate", "m: number of turns, 1 to 100", ScriptBoundaries::numberOfTurns);
        Checks.holds("Promise 24, simulate", "seed: any long", ScriptBoundaries::anySeed);
        Checks.holds("Promise 24, simulate", "A long x starts as the seed.", ScriptBoundaries::startsAsSeed);
        Checks.holds("Promise 24, simulate", "Each turn first replaces x by x * 6364136223846793005L +"
                + " 1442695040888963407L (with long overflow), and r = (int) (x >>> 33) is computed;",
                ScriptBoundaries::overflow);
        Checks.holds("Promise 24, simulate", "then, if r % 16 is 0, pass(),", ScriptBoundaries::everySixteenth);
        Checks.holds("Promise 24, simulate", "otherwise play(q), q being r / 16 modulo the points of the board.",
                ScriptBoundaries::pointOfTurn);
        Checks.holds("Promise 24, simulate", "What would throw an exception is left out.", ScriptBoundaries::leftOut);
        Checks.holds("Promise 24, simulate", "Returns 10000 * (the captives of both colours at the end) + 100 * (the groups at"
                + " the end) + (the stones of the colour 0 at the end).", ScriptBoundaries::numberAtTheEnd);
        Checks.holds("Promise 24, simulate", "Simulates m turns on a copy of the state.", ScriptBoundaries::simulatesOnCopy);
    }

    private static void commandIs(CornerStones x, int command, boolean succeeds) {
        Checks.due("the command " + command, () -> x.runScript(1, command), succeeds ? -1 : 0);
    }

    private static void numberOfCommands() {
        CornerStones x = new CornerStones();
        for (int n : new int[] {Integer.MIN_VALUE, -4, -1, 0, 5, 6, Integer.MAX_VALUE}) {
            Checks.thrown("n " + n, () -> x.runScript(n, 2000), Checks.ARGUMENT);
            Checks.thrown("n " + n + " with no digits", () -> x.runScript(n, 0), Checks.ARGUMENT);
        }
        Checks.due("one", () -> x.runScript(1, 2000), -1);
        Checks.due("two", () -> x.runScript(2, 20002000), -1);
        Checks.due("three", () -> x.runScript(3, 200020002000L), -1);
        Checks.due("four", () -> x.runScript(4, 2000200020002000L), -1);
    }

    private static void numberOfDigits() {
        CornerStones x = new CornerStones();
        long limit = 1;
        for (int i = 1; i <= 4; i++) {
            int n = i;
            limit *= 10000;
            long first = limit;
            Checks.thrown("a digit more", () -> x.runScript(n, first), Checks.ARGUMENT);
            Checks.thrown("and another number", () -> x.runScript(n, first + 1), Checks.ARGUMENT);
            Checks.due("the most", () -> x.runScript(n, first - 1), 0);
            Checks.due("the least", () -> x.runScript(n, 0), 0);
            Checks.due("one digit", () -> x.runScript(n, 9), 0);
            Checks.thrown("below 0", () -> x.runScript(n, -1), Checks.ARGUMENT);
            Checks.thrown("as many digits below 0", () -> x.runScript(n, -2000), Checks.ARGUMENT);
            Checks.thrown("the lowest", () -> x.runScript(n, Long.MIN_VALUE), Checks.ARGUMENT);
            Checks.thrown("the highest", () -> x.runScript(n, Long.MAX_VALUE), Checks.ARGUMENT);
            Checks.thrown("with 18 digits", () -> x.runScript(n, 200020002000200020L), Checks.ARGUMENT);
            Checks.thrown("whose lower half is a script", () -> x.runScript(n, (1L << 62) + 2000), Checks.ARGUMENT);
        }
        Checks.due("all nines behind a pass", () -> x.runScript(2, 20009999), 1);
        Checks.due("all nines behind three", () -> x.runScript(4, 2000200020009999L), 3);
    }

    private static void oneToFour() {
        CornerStones x = new CornerStones();
        long script = 0;
        for (int i = 1; i <= 4; i++) {
            int n = i;
            script = script * 10000 + 2000;
            long passes = script;
            Checks.due(n + " passes", () -> x.runScript(n, passes), -1);
            Checks.due("the last of " + n + " fails", () -> x.runScript(n, passes + 1), n - 1);
            Checks.thrown("they are more than " + (n - 1), () -> x.runScript(n - 1, passes), Checks.ARGUMENT);
        }
        Checks.thrown("five", () -> x.runScript(5, 2000200020002000L), Checks.ARGUMENT);
        Checks.thrown("none", () -> x.runScript(0, 0), Checks.ARGUMENT);
    }

    private static void highestFirst() {
        CornerStones x = new CornerStones();
        Checks.due("laid, then asked", () -> x.runScript(2, 10003000), -1);
        Checks.due("asked, then laid", () -> x.runScript(2, 30001000), 0);
        Checks.due("the four in their order", () -> x.runScript(4, 1000101030003011L), -1);
        Checks.due("in another order", () -> x.runScript(4, 1010100030003011L), 2);
        Checks.due("three", () -> x.runScript(3, 200010003001L), -1);
        Checks.due("the digits of a group in their order", () -> x.runScript(2, 11203120), -1);
    }

    private static void zerosBefore() {
        CornerStones x = new CornerStones();
        Checks.due("a group of zeros is the first", () -> x.runScript(2, 2000), 0);
        Checks.due("one of four", () -> x.runScript(4, 200020002000L), 0);
        Checks.due("no zeros needed", () -> x.runScript(3, 200020002000L), -1);
        Checks.due("fewer digits in one group", () -> x.runScript(1, 200), 0);
        Checks.due("zero itself", () -> x.runScript(1, 0), 0);
        Checks.due("behind a 0 digit there is no command 2", () -> x.runScript(2, 200020), 0);
    }

    private static void firstThatFails() {
        CornerStones x = new CornerStones();
        Checks.due("0 of four", () -> x.runScript(4, 9999200020002000L), 0);
        Checks.due("1 of four", () -> x.runScript(4, 2000999920002000L), 1);
        Checks.due("2 of four", () -> x.runScript(4, 2000200099992000L), 2);
        Checks.due("3 of four", () -> x.runScript(4, 2000200020009999L), 3);
        Checks.due("the first of two that fail", () -> x.runScript(4, 2000999920009999L), 1);
        Checks.due("none of four", () -> x.runScript(4, 2000200020002000L), -1);
        Checks.due("0 of one", () -> x.runScript(1, 9999), 0);
        Checks.due("none of one", () -> x.runScript(1, 2000), -1);
    }

    private static void onCopy() {
        CornerStones x = new CornerStones();
        x.play(0);
        Checks.due("it begins where the state is", () -> x.runScript(1, 3000), -1);
        for (int i = 0; i < 3; i++) {
            Checks.due("each time anew", () -> x.runScript(2, 10103011), -1);
        }
        Checks.due("the point is empty", () -> x.point(1, 0), -1);
        Checks.due("one move", () -> x.about(1), 1);
        Checks.due("one action", () -> x.undo(), 0);
        x.set(1);
        Boards.takeKo(x);
        Checks.due("what must not come is known to the copy", () -> x.runScript(1, 5063), -1);
        Checks.due("also behind its own moves", () -> x.runScript(3, 200020005063L), -1);
        x.set(0);
        Checks.due("with setting 0 as 0", () -> x.runScript(3, 200020005060L), -1);
        Checks.due("still on the board", () -> x.why(6), 3);
        CornerStones ready = Boards.drawn(0, ".XO..", "XO.O.", ".XO..", ".....", ".....");
        Checks.due("the latest position is known to the copy", () -> ready.runScript(2, 10705063), -1);
        ready.set(1);
        Checks.due("with setting 0 as 1 too", () -> ready.runScript(2, 10705063), -1);
        CornerStones last = new CornerStones();
        Boards.passTo(last, 118);
        Checks.due("its moves are counted on", () -> last.runScript(3, 200020002000L), 2);
    }

    private static void command1() {
        int[] last = {80, 150, 240, 350, 480};
        for (int rows = 3; rows <= 7; rows++) {
            CornerStones x = new CornerStones();
            x.board(rows);
            commandIs(x, 1000, true);
            commandIs(x, 1000 + last[rows - 3], true);
            commandIs(x, 1010 + last[rows - 3], false);
            commandIs(x, 1990, false);
            for (int digit = 1; digit < 10; digit++) {
                commandIs(x, 1000 + digit, false);
            }
        }
        CornerStones x = Boards.drawn(0, "OX.", "...", "...");
        Checks.due("it takes", () -> x.runScript(2, 10306001), -1);
        Checks.due("the other one has the turn", () -> x.runScript(3, 103010403041L), -1);
    }

    private static void command2() {
        CornerStones x = new CornerStones();
        for (int rest = 0; rest < 500; rest++) {
            commandIs(x, 2000 + rest, rest == 0);
        }
        CornerStones y = new CornerStones();
        for (int rest = 500; rest < 1000; rest++) {
            commandIs(y, 2000 + rest, false);
        }
        Checks.due("the other one has the turn", () -> y.runScript(3, 200010003001L), -1);
    }

    private static void command3() {
        CornerStones x = Boards.drawn(0, "X......", ".......", ".......", ".......", ".......", ".......", "......O");
        for (int c = 0; c < 10; c++) {
            commandIs(x, 3000 + c, c == 0);
            commandIs(x, 3480 + c, c == 1);
            commandIs(x, 3010 + c, false);
            commandIs(x, 3490 + c, false);
            commandIs(x, 3990 + c, false);
        }
    }

    private static void command4() {
        CornerStones x = Boards.drawn(0, ".......", "..XXXX.", ".......", ".......", ".......", "..X.X.O", ".XX.XXO");
        int[] points = {9, 43, 46, 48, 0};
        int[] liberties = {10, 5, 4, 2, 0};
        for (int i = 0; i < points.length; i++) {
            int k = points[i];
            int have = liberties[i];
            Checks.due("liberties of " + k, () -> x.point(k, 2), have);
            for (int n = 0; n < 10; n++) {
                commandIs(x, 4000 + 10 * k + n, have > 0 && have >= n);
            }
        }
        CornerStones eight = Boards.drawn(0, ".......", "..XXX..", ".......", ".......", ".......", ".......", ".......");
        commandIs(eight, 4098, true);
        commandIs(eight, 4099, false);
        CornerStones nine = Boards.drawn(0, ".......", "..XXX..", "..X....", ".......", ".......", ".......", ".......");
        commandIs(nine, 4098, true);
        commandIs(nine, 4099, true);
        commandIs(Boards.fullButOne(7, 0, 0), 4481, true);
        commandIs(Boards.fullButOne(7, 0, 0), 4482, false);
    }

    private static void command5() {
        CornerStones x = Boards.ko(0);
        int[] points = {24, 7, 0, 6};
        for (int want = 0; want < 4; want++) {
            for (int w = 0; w < 10; w++) {
                commandIs(x, 5000 + 10 * points[want] + w, w == want);
            }
        }
        CornerStones full = new CornerStones();
        Boards.passTo(full, 120);
        for (int w = 0; w < 10; w++) {
            commandIs(full, 5000 + w, w == 4);
            commandIs(full, 5250 + w, false);
        }
    }

    private static void command6() {
        CornerStones none = new CornerStones();
        commandIs(none, 6000, true);
        commandIs(none, 6001, false);
        commandIs(none, 6100, true);
        commandIs(none, 6101, false);
        CornerStones most = Boards.fullButOne(7, 0, 48);
        most.play(48);
        commandIs(most, 6100, true);
        commandIs(most, 6147, true);
        commandIs(most, 6148, true);
        commandIs(most, 6149, false);
        commandIs(most, 6199, false);
        commandIs(most, 6000, true);
        commandIs(most, 6001, false);
        for (int c = 2; c < 10; c++) {
            commandIs(most, 6000 + 100 * c, false);
        }
        moreCaptivesThanPoints();
    }

    /** Behind 48 stones that are taken at once, a stone in each of two corners is laid and taken. */
    private static void moreCaptivesThanPoints() {
        for (int c = 0; c < 2; c++) {
            CornerStones x = Boards.fullButOne(7, 1 - c, 48);
            x.play(48);
            int[][] corners = {{0, 1, 7}, {6, 5, 13}};
            for (int[] corner : corners) {
                Boards.turnTo(x, 1 - c);
                x.play(corner[0]);
                x.play(corner[1]);
                Boards.turnTo(x, c);
                x.play(corner[2]);
            }
            commandIs(x, 6050 + 100 * c, true);
            commandIs(x, 6051 + 100 * c, false);
        }
    }

    private static void command8() {
        CornerStones none = new CornerStones();
        commandIs(none, 8000, true);
        commandIs(none, 8001, false);
        commandIs(none, 8100, true);
        commandIs(none, 8101, false);
        CornerStones all = Boards.fullButOne(7, 1, 24);
        commandIs(all, 8148, true);
        commandIs(all, 8149, true);
        commandIs(all, 8150, false);
        commandIs(all, 8199, false);
        commandIs(all, 8000, true);
        commandIs(all, 8001, false);
        for (int c = 2; c < 10; c++) {
            commandIs(all, 8000 + 100 * c, false);
        }
    }

    private static void command9() {
        CornerStones x = Boards.drawn(0, ".X...", "XO...", ".....", "....O", "...O.");
        for (int e = 0; e < 10; e++) {
            commandIs(x, 9000 + e, e == 1);
            commandIs(x, 9240 + e, e == 2);
            commandIs(x, 9020 + e, e == 0);
            commandIs(x, 9010 + e, e == 0);
            commandIs(x, 9250 + e, false);
            commandIs(x, 9990 + e, false);
        }
    }

    private static void wouldThrow() {
        CornerStones x = Boards.ko(0);
        commandIs(x, 1010, false);
        commandIs(x, 1000, false);
        commandIs(x, 1060, false);
        commandIs(x, 1240, true);
        commandIs(x, 1250, false);
        Checks.due("behind two passes it may come", () -> x.runScript(3, 200020001060L), -1);
        CornerStones last = new CornerStones();
        Boards.passTo(last, 119);
        commandIs(last, 1000, true);
        commandIs(last, 2000, true);
        Checks.due("a stone too many", () -> last.runScript(2, 20001000), 1);
        Checks.due("a pass too many", () -> last.runScript(2, 10002000), 1);
        last.pass();
        commandIs(last, 1000, false);
        commandIs(last, 2000, false);
        commandIs(last, 5004, true);
    }

    private static void noSuchPoints() {
        for (int rows = 3; rows <= 7; rows++) {
            CornerStones x = Boards.fullButOne(rows, 0, 1);
            int all = rows * rows;
            for (int kind : new int[] {1, 3, 4, 5, 7, 9}) {
                for (int digit = 0; digit < 10; digit++) {
                    commandIs(x, 1000 * kind + 10 * all + digit, false);
                }
                commandIs(x, 1000 * kind + 990, false);
            }
            commandIs(x, 3000 + 10 * (all - 1), true);
            commandIs(x, 4001 + 10 * (all - 1), true);
            commandIs(x, 5001 + 10 * (all - 1), true);
            commandIs(x, 7001 + 10 * (all - 1), true);
            commandIs(x, 9000 + 10 * (all - 1), true);
            for (int c = 2; c < 10; c++) {
                commandIs(x, 3000 + c, false);
                commandIs(x, 3010 + c, false);
                commandIs(x, 6000 + 100 * c, false);
                commandIs(x, 8000 + 100 * c, false);
            }
        }
    }

    private static void emptyPoints() {
        CornerStones x = Boards.drawn(0, "OX.", "...", "...");
        for (int digit = 0; digit < 10; digit++) {
            commandIs(x, 4080 + digit, false);
            commandIs(x, 7080 + digit, false);
            commandIs(x, 4000 + digit, digit <= 1);
            commandIs(x, 7000 + digit, digit == 1);
        }
    }

    private static void otherGroups() {
        for (int start = 0; start < 1000; start += 500) {
            CornerStones x = new CornerStones();
            for (int group = start; group < start + 500; group++) {
                commandIs(x, group, false);
            }
        }
        for (int start = 0; start < 1000; start += 500) {
            CornerStones x = new CornerStones();
            x.board(7);
            for (int rest = start; rest < start + 500; rest++) {
                commandIs(x, 1000 + rest, rest % 10 == 0 && rest / 10 < 49);
            }
        }
        CornerStones x = new CornerStones();
        for (int rest : new int[] {1, 9, 10, 90, 100, 900, 999}) {
            commandIs(x, 2000 + rest, false);
        }
    }

    private static void decimalNumbers() {
        for (int i = 0; i < 49; i++) {
            int k = i;
            CornerStones x = new CornerStones();
            x.board(7);
            x.play(k);
            commandIs(x, 3000 + 10 * k, true);
            Checks.due("a stone elsewhere", () -> x.runScript(2, (10000000L + 100000 * (48 - k)) + 3001 + 10 * (48 - k)),
                    k == 24 ? 0 : -1);
        }
        for (int n = 9; n <= 49; n += 10) {
            CornerStones x = Boards.fullButOne(7, 0, 48);
            commandIs(x, 8000 + n, true);
            commandIs(x, 8000 + n + 1, n < 49);
        }
    }

    private static void numberOfTurns() {
        CornerStones x = new CornerStones();
        for (int m : new int[] {Integer.MIN_VALUE, -100, -1, 0, 101, 102, Integer.MAX_VALUE}) {
            Checks.thrown("m " + m, () -> x.simulate(0, m), Checks.ARGUMENT);
        }
        int different = 0;
        for (long seed = 0; seed < 300; seed++) {
            turnsAre(seed, 1);
            turnsAre(seed, 2);
            turnsAre(seed, 99);
            turnsAre(seed, 100);
            different += expected(seed, 99) != expected(seed, 100) ? 1 : 0;
        }
        int count = different;
        Checks.due("the last turn makes it different", () -> count > 10 ? 1 : 0, 1);
    }

    private static void turnsAre(long seed, int m) {
        CornerStones x = new CornerStones();
        x.board(7);
        Checks.due("simulate " + seed + ", " + m, () -> x.simulate(seed, m), expected(seed, m));
    }

    /** What the turns come to, with numbers that do not overflow, and with the calls themselves. */
    private static long expected(long seed, int m) {
        CornerStones x = new CornerStones();
        x.board(7);
        BigInteger all = BigInteger.ONE.shiftLeft(64);
        BigInteger n = BigInteger.valueOf(seed).mod(all);
        for (int i = 0; i < m; i++) {
            n = n.multiply(BigInteger.valueOf(6364136223846793005L)).add(BigInteger.valueOf(1442695040888963407L)).mod(all);
            int r = n.shiftRight(33).intValueExact();
            Checks.told(() -> r % 16 == 0 ? x.pass() : x.play(r / 16 % 49));
        }
        return 10000L * (x.colour(0, 1) + x.colour(1, 1)) + 100L * x.about(5) + x.colour(0, 0);
    }

    private static void anySeed() {
        long[] seeds = {Long.MIN_VALUE, Long.MIN_VALUE + 1, -1, 0, 1, Long.MAX_VALUE - 1, Long.MAX_VALUE, 1L << 32, 1L << 33};
        for (long seed : seeds) {
            turnsAre(seed, 1);
            turnsAre(seed, 3);
            turnsAre(seed, 100);
        }
        int different = 0;
        for (long seed : seeds) {
            different += expected(seed, 100) != expected(seed + 1, 100) ? 1 : 0;
        }
        int count = different;
        Checks.due("the seed makes it different", () -> count > 5 ? 1 : 0, 1);
    }

    private static void overflow() {
        // behind the first step, and behind those that follow it
        for (long x : new long[] {0, -1, Long.MIN_VALUE, Long.MAX_VALUE, 1L << 33, (1L << 33) - 1}) {
            for (int m = 1; m <= 5; m++) {
                turnsAre(seedBefore(x), m);
            }
        }
        CornerStones nine = Boards.fullButOne(3, 1, 4);
        // r is 2147483647, q 134217727, which is 7 modulo 9
        Checks.due("the highest r is not below 0", () -> Boards.fullButOne(3, 1, 7).simulate(seedBefore(-1), 1), 80101);
        Checks.due("so no other point", () -> nine.simulate(seedBefore(-1), 1), 100);
    }

    /** The seed that the first turn replaces by x. */
    private static long seedBefore(long x) {
        long factor = 6364136223846793005L;
        long inverse = factor;
        for (int i = 0; i < 6; i++) {
            inverse *= 2 - factor * inverse;
        }
        return (x - 1442695040888963407L) * inverse;
    }

    private static long seedFor(long r) {
        return seedBefore(r << 33);
    }

    /** Behind the seed that the point needs, the first turn lays there. */
    private static void startsAsSeed() {
        for (int k = 0; k < 25; k++) {
            CornerStones x = new CornerStones();
            // all points but this one and its neighbours have stones then, so that a stone elsewhere would be left out
            long keep = 1L << k | Boards.neighbours(5, k);
            for (int i = 0; i < 25; i++) {
                if ((keep >>> i & 1) == 0) {
                    Boards.turnTo(x, 0);
                    x.play(i);
                }
            }
            Boards.turnTo(x, 1);
            int groups = x.colour(0, 5) + 1;
            int stones = x.colour(0, 0);
            long seed = seedFor(16L * k + 1);
            Checks.due("a stone at " + k, () -> x.simulate(seed, 1), 100L * groups + stones);
        }
        CornerStones none = new CornerStones();
        Checks.due("the seed itself is no turn", () -> none.simulate(seedFor(0), 1), 0);
    }

    private static void everySixteenth() {
        CornerStones x = new CornerStones();
        for (long i = 0; i < 100; i++) {
            long r = i;
            Checks.due("r " + r, () -> x.simulate(seedFor(r), 1), r % 16 == 0 ? 0 : 101);
        }
        Checks.due("the highest r", () -> x.simulate(seedFor(Integer.MAX_VALUE), 1), 101);
        Checks.due("the highest that is a pass", () -> x.simulate(seedFor(Integer.MAX_VALUE - 15), 1), 0);
        CornerStones last = new CornerStones();
        Boards.passTo(last, 119);
        Checks.due("a pass is a move: r is 0, then there is none left", () -> last.simulate(stoneBehindPass(), 2), 0);
        Checks.due("a pass is a turn: the other one lays the stone", () -> x.simulate(stoneBehindPass(), 2), 100);
    }

    /** A seed whose first turn is a pass, and whose second is a stone. */
    private static long stoneBehindPass() {
        for (long low = 0; low < 1000; low++) {
            long x = low * 6364136223846793005L + 1442695040888963407L;
            if ((x >>> 33) % 16 != 0) {
                return seedBefore(low);
            }
        }
        return 0;
    }

    private static void pointOfTurn() {
        for (int k = 0; k < 9; k++) {
            CornerStones x = Boards.fullButOne(3, 1, k);
            int empty = k;
            for (long q : new long[] {0, 1, 2, 7, 8, 9, 10, 17, 18, 19, 134217727}) {
                for (long rest : new long[] {1, 15}) {
                    Checks.due("q " + q + ", empty " + k, () -> x.simulate(seedFor(16 * q + rest), 1),
                            q % 9 == empty ? 80101 : 100);
                }
            }
        }
        for (int rows = 4; rows <= 7; rows++) {
            int all = rows * rows;
            for (int k : new int[] {0, 1, all - 1}) {
                CornerStones x = Boards.fullButOne(rows, 1, k);
                for (long q : new long[] {0, 1, all - 1, all, all + 1, 2 * all - 1, 2 * all}) {
                    Checks.due("q " + q + " of " + all, () -> x.simulate(seedFor(16 * q + 1), 1),
                            q % all == k ? 10000 * (all - 1) + 101 : 100);
                }
            }
        }
    }

    private static void leftOut() {
        CornerStones own = Boards.fullButOne(3, 0, 0);
        own.pass();
        Checks.due("without a liberty", () -> own.simulate(seedFor(1), 1), 108);
        Checks.due("not empty", () -> own.simulate(seedFor(17), 1), 108);
        CornerStones ko = Boards.ko(0);
        int before = 10000 + 100 * ko.about(5) + ko.colour(0, 0);
        Checks.due("the position", () -> ko.simulate(seedFor(16 * 6 + 1), 1), before);
        CornerStones ready = Boards.drawn(0, ".XO..", "XO.O.", ".XO..", ".....", ".....");
        int behind = 10000 + 100 * ready.about(5) + ready.colour(0, 0) + 1;
        Checks.due("the position that came within it", () -> ready.simulate(seedForTwo(7, 6), 2), behind);
        CornerStones full = new CornerStones();
        full.board(7);
        Boards.passTo(full, 119);
        for (long seed = 0; seed < 30; seed++) {
            long s = seed;
            boolean first = (s * 6364136223846793005L + 1442695040888963407L >>> 33) % 16 != 0;
            Checks.due("there is one move left", () -> full.simulate(s, 100), first ? 100 : 0);
        }
        full.pass();
        Checks.due("there is none left", () -> full.simulate(1, 100), 0);
        CornerStones again = new CornerStones();
        // both turns are the same point: the second is left out, and no turn of the game
        Checks.due("twice the same point", () -> again.simulate(seedForTwo(1, 1), 2), 101);
        Checks.due("two points", () -> again.simulate(seedForTwo(1, 2), 2), 201);
    }

    /** A seed whose first two turns are stones at these points of a board with 25. */
    private static long seedForTwo(int k, int then) {
        for (long low = 0; low < 100000; low++) {
            long first = 16L * k + 1 << 33 | low;
            long r = first * 6364136223846793005L + 1442695040888963407L >>> 33;
            if (r % 16 != 0 && r / 16 % 25 == then) {
                return seedBefore(first);
            }
        }
        throw new IllegalStateException("there is no such seed");
    }

    private static void numberAtTheEnd() {
        Checks.due("nothing", () -> new CornerStones().simulate(seedFor(0), 1), 0);
        Checks.due("a stone of 0", () -> new CornerStones().simulate(seedFor(1), 1), 101);
        CornerStones x = new CornerStones();
        x.pass();
        Checks.due("a stone of 1", () -> x.simulate(seedFor(1), 1), 100);
        Checks.due("captives of 0", () -> Boards.fullButOne(7, 1, 0).simulate(seedFor(1), 1), 480101);
        Checks.due("captives of 1", () -> Boards.fullButOne(7, 0, 0).simulate(seedFor(1), 1), 480100);
        CornerStones both = Boards.ko(0);
        both.pass();
        both.pass();
        both.play(6);
        int groups = both.about(5);
        int zeros = both.colour(0, 0);
        Checks.due("of both, those before it too", () -> both.simulate(seedFor(0), 1), 20000 + 100 * groups + zeros);
        CornerStones many = Boards.drawn(0, "X.X.X.X", ".......", "X.X.X.X", ".......", "X.X.X.X", ".......", "X.X.X.X");
        Checks.due("many groups", () -> many.simulate(seedFor(0), 1), 1616);
    }

    private static void simulatesOnCopy() {
        CornerStones x = Boards.ko(0);
        long zeros = x.stones(0);
        long ones = x.stones(1);
        int moves = x.about(1);
        int twice = x.simulate(5, 100);
        Checks.due("the same again", () -> x.simulate(5, 100), twice);
        Checks.due("stones of 0", () -> x.stones(0), zeros);
        Checks.due("stones of 1", () -> x.stones(1), ones);
        Checks.due("moves", () -> x.about(1), moves);
        Checks.due("what must not come", () -> x.why(6), 3);
        x.undo();
        Checks.due("it is no action", () -> x.about(1), moves - 1);
    }
}
