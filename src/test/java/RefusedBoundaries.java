/** Each exception that the document names: which one, which first, and that the call changes nothing. */
final class RefusedBoundaries {
    private static final int LOWEST = Integer.MIN_VALUE;
    private static final int HIGHEST = Integer.MAX_VALUE;
    private static final String INDEX = "Throws IndexOutOfBoundsException if there is no such ";
    private static final String ARGUMENT = "Throws IllegalArgumentException if ";
    private static final String STATE = "Throws IllegalStateException if ";
    private static final String FIRST = "If several exceptions apply to a call, the one that its description names first is"
            + " thrown.";
    private static final String NOTHING = "these and all following methods up to the save slots change nothing.";

    private interface Of {
        void on(CornerStones x, int argument);
    }

    // each of these is one object, as the answers without a refused call are found but once for each
    private static final Answers.Deed NEW = x -> { };
    private static final Answers.Deed MIDDLE = x -> middle(x);
    private static final Answers.Deed END = x -> end(x);

    private RefusedBoundaries() {
    }

    static void run() {
        texts();
        arguments();
        points();
        states();
        firsts();
        questions();
    }

    /** Fourteen states and both slots, a text that can go on, a position that must not come, 5 rows. */
    private static void middle(CornerStones x) {
        Boards.write(x, "B4s0005p");
        x.set(1);
        x.board(3);
        x.play(4);
        x.save(0);
        Boards.takeKo(x);
        x.save(1);
        x.set(0);
        x.set(1);
    }

    /** A full text that is no game, 120 moves, fourteen states and both slots, 7 rows. */
    private static void end(CornerStones x) {
        Boards.write(x, "B5" + "p".repeat(117) + "4");
        Boards.draw(x, 1, "...OX..", "..OX.X.", "...OX..", ".......", "XO.....", ".......", ".......");
        x.save(1);
        Boards.passTo(x, 119);
        x.save(0);
        x.play(11);
    }

    private static void refused(String name, Answers.Deed call, String want) {
        Answers.refused("new, " + name, NEW, call, want);
        Answers.refused("in the middle, " + name, MIDDLE, call, want);
        Answers.refused("at the end, " + name, END, call, want);
    }

    private static void refusedFor(Of call, String want, int... arguments) {
        for (int a : arguments) {
            refused("" + a, x -> call.on(x, a), want);
        }
    }

    private static void texts() {
        Checks.holds("Promise 2, append", ARGUMENT + "c is out of range", () -> refusedFor((x, a) -> x.append(a),
                Checks.ARGUMENT, LOWEST, -1, 256, 65536, HIGHEST));
        Checks.holds("Promise 2, append", STATE + "the text already has 120 characters", () -> {
            for (int c : new int[] {0, 'p', 255}) {
                Answers.refused("a full text", END, x -> x.append(c), Checks.STATE);
            }
        });
        Checks.holds("Promise 5, load", "A call that throws an exception changes nothing.", () -> {
            Answers.refused("no text", NEW, x -> x.load(), Checks.STATE);
            Answers.refused("a full text that ends too soon", END, x -> x.load(), Checks.STATE);
            Answers.refused("no game", x -> {
                middle(x);
                x.append('s');
            }, x -> x.load(), Checks.STATE);
        });
    }

    private static void arguments() {
        Checks.holds("Promise 6, about", ARGUMENT + "what is not 0 to 7",
                () -> refusedFor((x, a) -> x.about(a), Checks.ARGUMENT, LOWEST, -1, 8, HIGHEST));
        Checks.holds("Promise 7, stones", INDEX + "colour",
                () -> refusedFor((x, a) -> x.stones(a), Checks.INDEX, LOWEST, -1, 2, HIGHEST));
        Checks.holds("Promise 8, colour", INDEX + "colour",
                () -> refusedFor((x, a) -> x.colour(a, 0), Checks.INDEX, LOWEST, -1, 2, HIGHEST));
        Checks.holds("Promise 8, colour", ARGUMENT + "what is not 0 to 5", () -> {
            refusedFor((x, a) -> x.colour(0, a), Checks.ARGUMENT, LOWEST, -1, 6, HIGHEST);
            refusedFor((x, a) -> x.colour(1, a), Checks.ARGUMENT, LOWEST, -1, 6, HIGHEST);
        });
        Checks.holds("Promise 9, point", ARGUMENT + "what is not 0 to 5",
                () -> refusedFor((x, a) -> x.point(1, a), Checks.ARGUMENT, LOWEST, -1, 6, HIGHEST));
        Checks.holds("Promise 10, group", ARGUMENT + "what is neither 0 nor 1",
                () -> refusedFor((x, a) -> x.group(1, a), Checks.ARGUMENT, LOWEST, -1, 2, HIGHEST));
        Checks.holds("Promise 12, board", ARGUMENT + "rows is out of range",
                () -> refusedFor((x, a) -> x.board(a), Checks.ARGUMENT, LOWEST, -3, 0, 2, 8, HIGHEST));
        Checks.holds("Promise 15, set", ARGUMENT + "v is neither 0 nor 1",
                () -> refusedFor((x, a) -> x.set(a), Checks.ARGUMENT, LOWEST, -1, 2, HIGHEST));
        Checks.holds("Promise 17, ifPlayed", ARGUMENT + "what is not 0 to 3", () -> {
            refusedFor((x, a) -> x.ifPlayed(24, a), Checks.ARGUMENT, LOWEST, -1, 4, HIGHEST);
            // also where no stone may be laid
            refusedFor((x, a) -> x.ifPlayed(1, a), Checks.ARGUMENT, LOWEST, -1, 4, HIGHEST);
        });
        Checks.holds("Promise 20, ladder", ARGUMENT + "what is neither 0 nor 1", () -> {
            refusedFor((x, a) -> x.ladder(11, a), Checks.ARGUMENT, LOWEST, -1, 2, HIGHEST);
            // also on an empty point
            refusedFor((x, a) -> x.ladder(24, a), Checks.ARGUMENT, LOWEST, -1, 2, HIGHEST);
        });
        Checks.holds("Promise 23, runScript", ARGUMENT + "n is out of range, or if script is negative or has more than 4 * n"
                + " digits", RefusedBoundaries::scripts);
        Checks.holds("Promise 24, simulate", ARGUMENT + "m is out of range",
                () -> refusedFor((x, a) -> x.simulate(1, a), Checks.ARGUMENT, LOWEST, -1, 0, 101, HIGHEST));
        Checks.holds("Promise 25, save", INDEX + "save slot",
                () -> refusedFor((x, a) -> x.save(a), Checks.INDEX, LOWEST, -1, 2, HIGHEST));
        Checks.holds("Promise 26, restore", INDEX + "save slot",
                () -> refusedFor((x, a) -> x.restore(a), Checks.INDEX, LOWEST, -1, 2, HIGHEST));
    }

    private static void scripts() {
        refusedFor((x, a) -> x.runScript(a, 2000), Checks.ARGUMENT, LOWEST, -1, 0, 5, HIGHEST);
        for (long script : new long[] {Long.MIN_VALUE, -2000, -1, 10000, 20002000, Long.MAX_VALUE}) {
            refused("script " + script, x -> x.runScript(1, script), Checks.ARGUMENT);
        }
        for (long script : new long[] {Long.MIN_VALUE, -1, 10000000000000000L, Long.MAX_VALUE}) {
            refused("script of four " + script, x -> x.runScript(4, script), Checks.ARGUMENT);
        }
    }

    private static void points() {
        pointIsMissing("Promise 9, point", (x, k) -> x.point(k, 0));
        pointIsMissing("Promise 10, group", (x, k) -> x.group(k, 0));
        pointIsMissing("Promise 11, why", (x, k) -> x.why(k));
        pointIsMissing("Promise 13, play", (x, k) -> x.play(k));
        pointIsMissing("Promise 17, ifPlayed", (x, k) -> x.ifPlayed(k, 0));
        pointIsMissing("Promise 20, ladder", (x, k) -> x.ladder(k, 0));
        pointIsMissing("Promise 21, chase", (x, k) -> x.chase(k));
    }

    private static void pointIsMissing(String promise, Of call) {
        Checks.holds(promise, INDEX + "point", () -> {
            refusedFor(call, Checks.INDEX, LOWEST, -1, 49, 64, HIGHEST);
            Answers.refused("25 of 25", NEW, x -> call.on(x, 25), Checks.INDEX);
            Answers.refused("48 of 25", MIDDLE, x -> call.on(x, 48), Checks.INDEX);
            for (int rows = 3; rows <= 7; rows++) {
                CornerStones x = new CornerStones();
                x.board(7);
                x.board(rows);
                // a point of the board before is none, and the last point of this one is no refusal
                for (int k : new int[] {rows * rows, rows * rows + 1, 49}) {
                    Checks.thrown(k + " of " + rows + " rows", () -> does(call, x, k), Checks.INDEX);
                }
                int last = rows * rows - 1;
                Checks.due("the last of " + rows + " rows", () -> does(call, x, last), 0);
                Checks.due("the first of " + rows + " rows", () -> does(call, x, 0), 0);
            }
        });
    }

    private static long does(Of call, CornerStones x, int k) {
        call.on(x, k);
        return 0;
    }

    private static void states() {
        Checks.holds("Promise 13, play", STATE + "it may not be laid", () -> {
            for (int k : new int[] {7, 2, 0, 6}) {
                Answers.refused("reasons 1 to 3, point " + k, MIDDLE, x -> x.play(k), Checks.STATE);
            }
            for (int k : new int[] {11, 28, 0, 10, 48}) {
                Answers.refused("with 120 moves, point " + k, END, x -> x.play(k), Checks.STATE);
            }
        });
        Checks.holds("Promise 14, pass", STATE + "there are 120 moves",
                () -> Answers.refused("a pass too many", END, x -> x.pass(), Checks.STATE));
        Checks.holds("Promise 16, undo", "A call that throws an exception changes nothing.", () -> {
            Answers.refused("a new object", NEW, x -> x.undo(), Checks.STATE);
            Answers.refused("nothing is left", x -> {
                middle(x);
                for (int i = 0; i < 14; i++) {
                    x.undo();
                }
            }, x -> x.undo(), Checks.STATE);
            Answers.refused("behind restore", x -> {
                end(x);
                x.restore(0);
            }, x -> x.undo(), Checks.STATE);
        });
        Checks.holds("Promise 26, restore", "A call that throws an exception changes nothing.", () -> {
            for (int i = 0; i < 2; i++) {
                int slot = i;
                Answers.refused("a new object", NEW, x -> x.restore(slot), Checks.STATE);
                Answers.refused("the other one is saved", x -> {
                    Boards.write(x, "B3p");
                    for (int n = 0; n < 20; n++) {
                        x.pass();
                    }
                    x.save(1 - slot);
                    x.play(0);
                }, x -> x.restore(slot), Checks.STATE);
            }
        });
    }

    private static void firsts() {
        Checks.holds("Promise 2, append", FIRST, () -> {
            Answers.refused("not 0 to 255, and a full text", END, x -> x.append(256), Checks.ARGUMENT);
            Answers.refused("below 0, and a full text", END, x -> x.append(-1), Checks.ARGUMENT);
        });
        Checks.holds("Promise 8, colour", FIRST, () -> bothWrong((x, a) -> x.colour(a, 6), (x, a) -> x.colour(2, a)));
        Checks.holds("Promise 9, point", FIRST, () -> bothWrong((x, a) -> x.point(a, 6), (x, a) -> x.point(49, a)));
        Checks.holds("Promise 10, group", FIRST, () -> bothWrong((x, a) -> x.group(a, 2), (x, a) -> x.group(49, a)));
        Checks.holds("Promise 17, ifPlayed", FIRST, () -> bothWrong((x, a) -> x.ifPlayed(a, 4), (x, a) -> x.ifPlayed(49, a)));
        Checks.holds("Promise 20, ladder", FIRST, () -> bothWrong((x, a) -> x.ladder(a, 2), (x, a) -> x.ladder(49, a)));
        Checks.holds("Promise 13, play", FIRST, () -> {
            Answers.refused("no point, and 120 moves", END, x -> x.play(49), Checks.INDEX);
            Answers.refused("below 0, and 120 moves", END, x -> x.play(-1), Checks.INDEX);
        });
        Checks.holds("Promise 26, restore", FIRST, () -> {
            Answers.refused("no slot, and nothing saved", NEW, x -> x.restore(2), Checks.INDEX);
            Answers.refused("below 0, and nothing saved", NEW, x -> x.restore(-1), Checks.INDEX);
        });
    }

    private static void bothWrong(Of first, Of second) {
        refusedFor(first, Checks.INDEX, LOWEST, -1, 49, HIGHEST);
        refusedFor(second, Checks.INDEX, LOWEST, -1, 6, HIGHEST);
    }

    private static void unchanged(String name, Answers.Deed call) {
        Answers.unchanged("new, " + name, NEW, call);
        Answers.unchanged("in the middle, " + name, MIDDLE, call);
        Answers.unchanged("at the end, " + name, END, call);
    }

    /** A question changes nothing, also where it answers that there is nothing. */
    private static void questions() {
        Checks.holds("Promise 17, ifPlayed", NOTHING, () -> {
            for (int k : new int[] {0, 1, 6, 7, 10, 24}) {
                unchanged("ifPlayed " + k, x -> x.ifPlayed(k, 3));
            }
            unchanged("all of a board", x -> {
                for (int k = 0; k < 25; k++) {
                    x.ifPlayed(k, 0);
                }
            });
        });
        Checks.holds("Promise 18, bestTake", NOTHING, () -> unchanged("bestTake", x -> x.bestTake()));
        Checks.holds("Promise 19, choices", NOTHING, () -> unchanged("choices", x -> x.choices()));
        Checks.holds("Promise 20, ladder", NOTHING, () -> {
            for (int k = 0; k < 25; k++) {
                int at = k;
                unchanged("ladder " + k, x -> x.ladder(at, at % 2));
            }
        });
        Checks.holds("Promise 21, chase", NOTHING, () -> {
            for (int k = 0; k < 25; k++) {
                int at = k;
                unchanged("chase " + k, x -> x.chase(at));
            }
        });
        Checks.holds("Promise 22, lead", NOTHING, () -> unchanged("lead", x -> x.lead()));
        Checks.holds("Promise 23, runScript", NOTHING, () -> {
            unchanged("moves of a script", x -> x.runScript(4, 1240200010202000L));
            unchanged("a script that fails", x -> x.runScript(3, 124099992000L));
            unchanged("a script that asks", x -> x.runScript(2, 50757071));
        });
        Checks.holds("Promise 24, simulate", NOTHING, () -> {
            unchanged("a turn", x -> x.simulate(0, 1));
            unchanged("many turns", x -> x.simulate(77, 100));
        });
        Checks.holds("Promise 4, errorPosition", "Checks the text.", () -> unchanged("errorPosition", x -> x.errorPosition()));
    }
}
