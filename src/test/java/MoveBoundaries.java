/** Moves and what they would do (promises 11, 13, 14 and 17 to 19): taking, liberties, positions, 120 moves. */
final class MoveBoundaries {
    private MoveBoundaries() {
    }

    static void run() {
        rulesOfMoves();
        rulesOfPositions();
        Checks.holds("Promise 11, why", "Returns 0 if it may be laid; 1 if the point is not empty; 2 if its group would have"
                + " no liberty; 3 if the position must not come; 4 if there are 120 moves (of several the least number).",
                MoveBoundaries::leastReason);
        Checks.holds("Promise 13, play", "Returns how many stones are taken by it.", MoveBoundaries::takenStones);
        Checks.holds("Promise 14, pass", "Returns the passes so far.", MoveBoundaries::countedPasses);
        Checks.holds("Promise 14, pass", "Passes are always allowed.", MoveBoundaries::alwaysPasses);
        Checks.holds("Promise 17, ifPlayed", "0: how many stones it would take;", MoveBoundaries::wouldTake);
        Checks.holds("Promise 17, ifPlayed", "1: the liberties of its group then;", MoveBoundaries::wouldHaveLiberties);
        Checks.holds("Promise 17, ifPlayed", "2: the stones of its group then;", MoveBoundaries::wouldBeInGroup);
        Checks.holds("Promise 17, ifPlayed", "3: the groups of the other colour with just one liberty then",
                MoveBoundaries::wouldBeInAtari);
        Checks.holds("Promise 17, ifPlayed", "Returns that number; NONE if it may not be laid.", MoveBoundaries::mayNotBeLaid);
        Checks.holds("Promise 18, bestTake", "takes most stones, at least one,", MoveBoundaries::takesAtLeastOne);
        Checks.holds("Promise 18, bestTake", "Returns the point where a stone of the one who has the turn takes most stones,",
                MoveBoundaries::takesMost);
        Checks.holds("Promise 18, bestTake", "of several the lowest;", MoveBoundaries::takesLowest);
        Checks.holds("Promise 18, bestTake", "NONE if there is none.", MoveBoundaries::takesNone);
        Checks.holds("Promise 19, choices", "Counts the points where the one who has the turn may lay a stone.",
                MoveBoundaries::choices);
    }

    private static void rulesOfMoves() {
        Checks.holds("Promise 13, play", "The colours have the turn one after the other, the colour 0 first.",
                MoveBoundaries::turns);
        Checks.holds("Promise 13, play", "A move is a stone on an empty point, or a pass.", MoveBoundaries::emptyPoints);
        Checks.holds("Promise 13, play", "When a stone is laid, all groups of the other colour that have no liberty then are"
                + " taken off the board;", MoveBoundaries::takenGroups);
        Checks.holds("Promise 13, play", "they are captives of the one who laid it.", MoveBoundaries::captives);
        Checks.holds("Promise 11, why", "A stone must not be laid if its own group would have no liberty then.",
                MoveBoundaries::ownLiberty);
        Checks.holds("Promise 11, why", "There are at most 120 moves.", MoveBoundaries::mostMovesOfStones);
        Checks.holds("Promise 14, pass", "There are at most 120 moves.", MoveBoundaries::mostMovesOfPasses);
    }

    private static void rulesOfPositions() {
        Checks.holds("Promise 11, why", "A position is which stones are on which points.", MoveBoundaries::position);
        Checks.holds("Promise 11, why", "With setting 0 as 0, a stone must not be laid if the position would be that ahead of"
                + " the latest move (if there was one);", MoveBoundaries::latestPosition);
        Checks.holds("Promise 11, why", "with setting 0 as 1, if it would be any of those that there were since the board was"
                + " laid out, the empty one too.", MoveBoundaries::anyPosition);
        Checks.holds("Promise 12, board", "since the board was laid out", MoveBoundaries::positionsOfThisBoard);
        Checks.holds("Promise 11, why", "The positions that there were are those behind each move (passes too), and that at"
                + " the beginning.", MoveBoundaries::positionsBehindPasses);
        Checks.holds("Promise 16, undo", "The positions that there were are those behind each move",
                MoveBoundaries::positionsTakenBack);
        Checks.holds("Promise 26, restore", "The positions that there were are those behind each move",
                MoveBoundaries::positionsRestored);
    }

    private static void turns() {
        CornerStones x = new CornerStones();
        x.board(7);
        for (int i = 0; i < 120; i++) {
            int n = i;
            Checks.due("with " + n + " moves", () -> x.about(2), n % 2);
            if (n % 2 == 0 && n < 90) {
                x.play(n / 2);
            } else {
                x.pass();
            }
        }
        Checks.due("behind the last move", () -> x.about(2), 0);
        Checks.due("the colour 0 laid first", () -> Boards.loaded("B300").stones(0), 1);
        Checks.due("the colour 1 laid second", () -> Boards.loaded("B30008").stones(1), 1 << 8);
        Checks.due("the colour 0 again", () -> Boards.loaded("B3000801").stones(0), 3);
        Checks.due("a pass is a turn", () -> Boards.loaded("B3p00").stones(1), 1);
    }

    private static void emptyPoints() {
        CornerStones x = Boards.drawn(0, "X.O", "...", "O.X");
        for (int k : new int[] {0, 2, 6, 8}) {
            Checks.due("a stone is there", () -> x.why(k), 1);
            Checks.thrown("no second one", () -> x.play(k), Checks.STATE);
        }
        Checks.due("an empty point", () -> x.why(1), 0);
        CornerStones two = Boards.drawn(0, "OOX", "X..", "...");
        Checks.due("two are taken", () -> two.play(4), 2);
        Checks.due("their points are empty again", () -> two.why(1), 0);
        Checks.due("and may have a stone", () -> two.play(1), 0);
    }

    private static void takenGroups() {
        CornerStones four = Boards.drawn(0, "..X..", ".XOX.", "XO.OX", ".XOX.", "..X..");
        Checks.due("four groups at once", () -> four.play(12), 4);
        Boards.same(four, "..X..", ".X.X.", "X.X.X", ".X.X.", "..X..");
        CornerStones three = Boards.drawn(0, "..X..", ".XOX.", "XO.OX", ".XOX.", ".....");
        Checks.due("one has a liberty left", () -> three.play(12), 3);
        Boards.same(three, "..X..", ".X.X.", "X.X.X", ".XOX.", ".....");
        CornerStones joined = Boards.drawn(0, "OOX", "O..", "X..");
        Checks.due("one liberty is left", () -> joined.play(8), 0);
        joined.pass();
        Checks.due("all stones of a group", () -> joined.play(4), 3);
        Boards.same(joined, "..X", ".X.", "X.X");
        for (int empty : new int[] {0, 24, 48}) {
            CornerStones most = Boards.fullButOne(7, 0, empty);
            Checks.due("a full board", () -> most.play(empty), 48);
            Checks.due("nothing is left of it", () -> most.stones(0), 0);
            Checks.due("but the one stone", () -> most.stones(1), 1L << empty);
        }
        CornerStones own = Boards.drawn(0, ".OX", "OX.", "X..");
        Checks.due("the others are taken first", () -> own.play(0), 2);
        Boards.same(own, "X.X", ".X.", "X..");
    }

    private static void captives() {
        CornerStones x = Boards.drawn(0, "OX.", "...", "...");
        x.play(3);
        Checks.due("of 0", () -> x.colour(0, 1), 1);
        Checks.due("none of 1", () -> x.colour(1, 1), 0);
        CornerStones y = Boards.drawn(1, "XXO", "O..", "...");
        y.play(4);
        Checks.due("of 1", () -> y.colour(1, 1), 2);
        Checks.due("none of 0", () -> y.colour(0, 1), 0);
        CornerStones both = Boards.drawn(0, ".XO..", "XO.O.", ".XO..", ".....", ".....");
        both.play(7);
        both.pass();
        both.pass();
        both.play(6);
        Checks.due("one of each, 0", () -> both.colour(0, 1), 1);
        Checks.due("one of each, 1", () -> both.colour(1, 1), 1);
        both.pass();
        both.pass();
        both.play(7);
        Checks.due("one more of 0", () -> both.colour(0, 1), 2);
        CornerStones most = Boards.fullButOne(7, 0, 6);
        most.play(6);
        Checks.due("48", () -> most.colour(1, 1), 48);
    }

    private static void ownLiberty() {
        CornerStones none = Boards.drawn(1, ".X.", "X..", "...");
        Checks.due("no liberty", () -> none.why(0), 2);
        Checks.due("one liberty", () -> Boards.drawn(1, "...", "X..", "...").why(0), 0);
        Checks.due("none in the middle", () -> Boards.drawn(1, ".X.", "X.X", ".X.").why(4), 2);
        Checks.due("one in the middle", () -> Boards.drawn(1, ".X.", "X..", ".X.").why(4), 0);
        CornerStones joined = Boards.drawn(1, ".OX", "XX.", "...");
        Checks.due("no liberty with its group", () -> joined.why(0), 2);
        CornerStones open = Boards.drawn(1, ".O.", "XX.", "...");
        Checks.due("one liberty with its group", () -> open.why(0), 0);
        Checks.due("that of its group", () -> open.ifPlayed(0, 1), 1);
        Checks.due("taking makes one", () -> Boards.drawn(1, ".XO", "XO.", "O..").why(0), 0);
        for (int rows = 3; rows <= 7; rows++) {
            for (int colour = 0; colour < 2; colour++) {
                int last = rows * rows - 1;
                CornerStones most = Boards.fullButOne(rows, colour, last);
                Checks.due("the other one takes all", () -> most.why(last), 0);
                most.pass();
                Checks.due("the last point of a full board", () -> most.why(last), 2);
                Checks.thrown("is not laid", () -> most.play(last), Checks.STATE);
            }
        }
    }

    private static void mostMovesOfStones() {
        CornerStones x = new CornerStones();
        x.board(7);
        Boards.passTo(x, 118);
        Checks.due("with 118", () -> x.why(0), 0);
        x.play(0);
        Checks.due("with 119", () -> x.why(1), 0);
        Checks.due("with 119 it may be told", () -> x.ifPlayed(1, 1), 2);
        Checks.due("the last one", () -> x.play(1), 0);
        Checks.due("moves", () -> x.about(1), 120);
        for (int i = 2; i < 49; i++) {
            int k = i;
            Checks.due("with 120", () -> x.why(k), 4);
        }
        Checks.thrown("one more", () -> x.play(2), Checks.STATE);
        Checks.due("a stone is no less not empty", () -> x.why(0), 1);
        x.undo();
        Checks.due("one is taken back", () -> x.why(1), 0);
        x.pass();
        x.board(7);
        Checks.due("another board has none", () -> x.why(0), 0);
    }

    private static void mostMovesOfPasses() {
        CornerStones x = new CornerStones();
        Boards.passTo(x, 119);
        Checks.due("the last one", () -> x.pass(), 120);
        Checks.thrown("one more", () -> x.pass(), Checks.STATE);
        Checks.thrown("and again", () -> x.pass(), Checks.STATE);
        Checks.due("moves", () -> x.about(1), 120);
        x.undo();
        Checks.due("behind undo", () -> x.pass(), 120);
        x.board(3);
        Checks.due("another board", () -> x.pass(), 1);
        CornerStones stones = new CornerStones();
        for (int k = 0; k < 20; k += 2) {
            stones.play(k);
            stones.pass();
        }
        Boards.passTo(stones, 119);
        Checks.due("stones are moves too", () -> stones.pass(), 110);
        Checks.thrown("so there is no more", () -> stones.pass(), Checks.STATE);
    }

    private static void position() {
        CornerStones same = Boards.ko(1);
        Checks.due("the same stones on the same points", () -> same.why(6), 3);
        same.play(24);
        same.pass();
        Checks.due("one stone more on another point", () -> same.why(6), 0);
        // two are taken and one comes back: the same stones as behind the move 6, when the colour 0 had the turn
        CornerStones back = Boards.loaded("B5s01p030507060002");
        Checks.due("it is the colour 0 that takes back", () -> back.about(2), 0);
        Checks.due("then the colour 1 has the turn", () -> back.why(1), 3);
        // behind five moves there were stones on the same points, but that at 0 was the other colour's
        CornerStones swapped = Boards.loaded("B3s05030004010201");
        Boards.same(swapped, ".X.", "OOX", "...");
        Checks.due("stones of other colours", () -> swapped.why(0), 0);
    }

    /** On 3 rows, the colour 1 has all points but 0; before that the colour 0 had a single stone there, if it says so. */
    private static void fillAround(CornerStones x, boolean stoneFirst) {
        x.board(3);
        if (stoneFirst) {
            x.play(0);
        } else {
            x.pass();
        }
        x.play(1);
        for (int k : new int[] {3, 2, 4, 5, 6, 7, 8}) {
            x.pass();
            x.play(k);
        }
        Boards.same(x, ".OO", "OOO", "OOO");
        Checks.due("moves before", () -> x.about(1), 16);
    }

    private static void latestPosition() {
        CornerStones first = new CornerStones();
        Checks.due("there was none", () -> first.why(0), 0);
        Checks.due("ahead of the first move it was empty", () -> {
            first.play(0);
            return first.why(1);
        }, 0);
        CornerStones x = Boards.ko(0);
        Checks.due("that ahead of the latest move", () -> x.why(6), 3);
        Checks.thrown("is not laid", () -> x.play(6), Checks.STATE);
        x.pass();
        x.pass();
        Checks.due("that ahead of the latest move but two", () -> x.why(6), 0);
        CornerStones y = Boards.drawn(0, ".X.X.", "OOX..", ".....", ".....", ".....");
        y.play(0);
        y.play(2);
        Checks.due("that ahead of the latest move but one", () -> y.why(1), 0);
        latestPositionAtTheEnd();
    }

    private static void latestPositionAtTheEnd() {
        CornerStones x = Boards.drawn(0, ".XO..", "XO.O.", ".XO..", ".....", ".....");
        Boards.passTo(x, 118);
        x.play(7);
        Checks.due("ahead of the move 119", () -> x.why(6), 3);
        CornerStones y = Boards.drawn(1, ".OX..", "OX.X.", ".OX..", ".....", ".....");
        Boards.passTo(y, 119);
        y.play(7);
        Checks.due("ahead of the move 120", () -> y.why(6), 3);
        Checks.due("the others", () -> y.why(24), 4);
        CornerStones z = Boards.drawn(0, ".OX..", "OX.X.", ".OX..", ".....", ".....");
        Boards.passTo(z, 118);
        z.play(24);
        z.play(7);
        Checks.due("there only since the move 119", () -> z.why(6), 3);
    }

    private static void anyPosition() {
        for (int i = 0; i < 2; i++) {
            int setting = i;
            CornerStones x = new CornerStones();
            x.set(setting);
            fillAround(x, true);
            Checks.due("the position behind the first move, setting 0 as " + setting, () -> x.why(0), 3 * setting);
            Boards.passTo(x, 118);
            Checks.due("with 118 moves", () -> x.why(0), 3 * setting);
            Boards.passTo(x, 120);
            Checks.due("with 120 moves", () -> x.why(0), setting == 1 ? 3 : 4);
            CornerStones other = new CornerStones();
            other.set(setting);
            fillAround(other, false);
            Checks.due("no position that there was", () -> other.why(0), 0);
            Checks.due("takes all", () -> other.play(0), 8);
        }
        CornerStones empty = new CornerStones();
        empty.set(1);
        Checks.due("a stone makes no empty position", () -> empty.choices(), 25);
        CornerStones latest = Boards.ko(1);
        Checks.due("that ahead of the latest move", () -> latest.why(6), 3);
        CornerStones middle = Boards.drawn(0, ".X.X.", "OOX..", ".....", ".....", ".....");
        middle.set(1);
        middle.play(0);
        middle.play(2);
        Checks.due("that ahead of the latest move but one", () -> middle.why(1), 3);
        anyPositionAtTheEnd();
    }

    private static void anyPositionAtTheEnd() {
        CornerStones x = new CornerStones();
        x.set(1);
        Boards.draw(x, 1, ".OX..", "OX.X.", ".OX..", ".....", ".....");
        Boards.passTo(x, 119);
        x.play(7);
        Checks.due("the position behind the move 119", () -> x.why(6), 3);
        Checks.due("the others", () -> x.why(24), 4);
        CornerStones y = new CornerStones();
        y.set(1);
        Boards.draw(y, 0, ".XO..", "XO.O.", ".XO..", ".....", ".....");
        Boards.passTo(y, 116);
        y.play(7);
        Boards.passTo(y, 119);
        Checks.due("the position behind the move 116", () -> y.why(6), 3);
        CornerStones z = new CornerStones();
        z.set(1);
        Boards.draw(z, 0, ".OX..", "OX.X.", ".OX..", ".....", ".....");
        Boards.passTo(z, 118);
        z.play(24);
        z.play(7);
        Checks.due("there only since the move 119", () -> z.why(6), 3);
    }

    private static void positionsOfThisBoard() {
        CornerStones x = new CornerStones();
        x.set(1);
        x.board(3);
        x.play(0);
        fillAround(x, false);
        Checks.due("a position of the board before", () -> x.why(0), 0);
        Checks.due("it is laid", () -> x.play(0), 8);
        CornerStones y = new CornerStones();
        Boards.write(y, "B3s00");
        y.load();
        Boards.write(y, "B3sp01p03p02p04p05p06p07p08");
        y.load();
        Checks.due("a position from before load", () -> y.why(0), 0);
        Boards.write(y, "B3s0001p03p02p04p05p06p07p08");
        y.load();
        Checks.due("a position of the text", () -> y.why(0), 3);
        CornerStones z = new CornerStones();
        z.set(1);
        z.play(12);
        z.board(5);
        Checks.due("the first position of the board before", () -> z.why(12), 0);
    }

    private static void positionsBehindPasses() {
        CornerStones x = Boards.ko(0);
        x.pass();
        x.pass();
        Checks.due("the latest move is a pass, the position ahead of it another one", () -> x.why(6), 0);
        CornerStones y = Boards.ko(1);
        y.pass();
        y.pass();
        Checks.due("passes do not make it another one", () -> y.why(6), 3);
        for (int i = 0; i < 100; i++) {
            y.pass();
        }
        Checks.due("nor do many of them", () -> y.why(6), 3);
        CornerStones once = Boards.drawn(0, ".XO..", "XO.O.", ".XO..", ".....", ".....");
        once.pass();
        once.pass();
        once.play(7);
        Checks.due("the position ahead of the stone is that behind the pass", () -> once.why(6), 3);
    }

    private static void positionsTakenBack() {
        CornerStones x = new CornerStones();
        x.set(1);
        x.play(12);
        x.undo();
        Checks.due("a position that was taken back", () -> x.why(12), 0);
        CornerStones y = Boards.ko(0);
        y.pass();
        y.pass();
        y.undo();
        y.undo();
        Checks.due("the latest move is the stone again", () -> y.why(6), 3);
        CornerStones z = new CornerStones();
        z.set(1);
        z.board(3);
        z.play(0);
        z.undo();
        z.pass();
        z.play(1);
        for (int k : new int[] {3, 2, 4, 5, 6, 7, 8}) {
            z.pass();
            z.play(k);
        }
        Checks.due("it was taken back long ago", () -> z.why(0), 0);
        for (int setting = 0; setting < 2; setting++) {
            CornerStones back = Boards.loaded("B5" + (setting == 1 ? "s" : "") + KO);
            back.board(5);
            Boards.passTo(back, 10);
            for (int i = 0; i < 11; i++) {
                back.undo();
            }
            back.play(7);
            Checks.due("the latest one behind undo, setting 0 as " + setting, () -> back.why(6), 3);
        }
    }

    /** The colour 0 is about to take at 7, where the other one must not take back at 6; eight moves. */
    private static final String KO = "010205081112p06";

    private static void positionsRestored() {
        for (int setting = 0; setting < 2; setting++) {
            CornerStones y = Boards.loaded("B5" + (setting == 1 ? "s" : "") + KO);
            y.save(0);
            y.board(5);
            Boards.passTo(y, 20);
            y.restore(0);
            y.play(7);
            Checks.due("the latest one of those that were saved, setting 0 as " + setting, () -> y.why(6), 3);
        }
        CornerStones x = Boards.ko(1);
        x.save(0);
        x.board(5);
        Checks.due("on another board", () -> x.why(6), 0);
        x.save(1);
        x.restore(0);
        Checks.due("they come back", () -> x.why(6), 3);
        x.restore(1);
        Checks.due("and go again", () -> x.why(6), 0);
    }

    private static void leastReason() {
        CornerStones y = Boards.drawn(1, ".OX..", "OX.X.", ".OX..", ".....", ".....");
        Boards.passTo(y, 119);
        Checks.due("it may be laid", () -> y.why(7), 0);
        y.play(7);
        Checks.due("not empty, and 120 moves", () -> y.why(1), 1);
        Checks.due("not empty, the other's", () -> y.why(2), 1);
        Checks.due("no liberty, and 120 moves", () -> y.why(0), 2);
        Checks.due("the position, and 120 moves", () -> y.why(6), 3);
        Checks.due("120 moves", () -> y.why(3), 4);
        y.set(1);
        Checks.due("the position with 1, and 120 moves", () -> y.why(6), 3);
        CornerStones x = Boards.ko(0);
        Checks.due("not empty", () -> x.why(7), 1);
        Checks.due("no liberty", () -> x.why(0), 2);
        Checks.due("the position", () -> x.why(6), 3);
        Checks.due("none of them", () -> x.why(24), 0);
    }

    private static void takenStones() {
        CornerStones x = Boards.drawn(0, "OX.", "...", "...");
        Checks.due("none", () -> x.play(8), 0);
        x.pass();
        Checks.due("one", () -> x.play(3), 1);
        Checks.due("none, and what was taken before does not count", () -> x.play(5), 0);
        Checks.due("two", () -> Boards.drawn(1, "XXO", "O..", "...").play(4), 2);
        Checks.due("four of four groups", () -> Boards.drawn(0, "..X..", ".XOX.", "XO.OX", ".XOX.", "..X..").play(12), 4);
        Checks.due("48", () -> Boards.fullButOne(7, 1, 48).play(48), 48);
    }

    private static void countedPasses() {
        CornerStones x = new CornerStones();
        Checks.due("the first", () -> x.pass(), 1);
        x.play(0);
        Checks.due("stones do not count", () -> x.pass(), 2);
        for (int i = 3; i < 120; i++) {
            int n = i;
            Checks.due("a pass", () -> x.pass(), n);
        }
        CornerStones y = new CornerStones();
        Boards.passTo(y, 119);
        Checks.due("the last", () -> y.pass(), 120);
    }

    private static void alwaysPasses() {
        CornerStones x = new CornerStones();
        x.set(1);
        Checks.due("the empty position comes again", () -> x.pass(), 1);
        Checks.due("and again", () -> x.pass(), 2);
        Checks.due("behind two passes", () -> x.pass(), 3);
        Checks.due("behind three", () -> x.pass(), 4);
        CornerStones y = Boards.fullButOne(7, 0, 0);
        y.pass();
        Checks.due("no choices", () -> y.choices(), 0);
        Checks.due("but a pass", () -> y.pass() > 0 ? 1 : 0, 1);
        CornerStones z = Boards.ko(0);
        Checks.due("with setting 0 as 0", () -> z.pass() > 0 ? 1 : 0, 1);
    }

    private static void wouldTake() {
        Checks.due("none", () -> new CornerStones().ifPlayed(0, 0), 0);
        Checks.due("one", () -> Boards.drawn(0, "OX.", "...", "...").ifPlayed(3, 0), 1);
        Checks.due("none beside it", () -> Boards.drawn(0, "OX.", "...", "...").ifPlayed(4, 0), 0);
        Checks.due("four", () -> Boards.drawn(0, "..X..", ".XOX.", "XO.OX", ".XOX.", "..X..").ifPlayed(12, 0), 4);
        Checks.due("48", () -> Boards.fullButOne(7, 0, 48).ifPlayed(48, 0), 48);
    }

    private static void wouldHaveLiberties() {
        Checks.due("one", () -> Boards.drawn(1, ".X.", "...", "...").ifPlayed(0, 1), 1);
        Checks.due("two in a corner", () -> new CornerStones().ifPlayed(24, 1), 2);
        Checks.due("four", () -> new CornerStones().ifPlayed(12, 1), 4);
        Checks.due("those of the stones that it joins", () -> Boards.drawn(0, "X..", "...", "...").ifPlayed(1, 1), 3);
        Checks.due("a taken one's point", () -> Boards.drawn(1, ".XO", "XO.", "O..").ifPlayed(0, 1), 2);
        Checks.due("one that is left", () -> Boards.drawn(0, "X.X", "X.X", "XXX").ifPlayed(1, 1), 1);
        Checks.due("behind taking all", () -> Boards.fullButOne(7, 0, 24).ifPlayed(24, 1), 4);
    }

    private static void wouldBeInGroup() {
        Checks.due("alone", () -> new CornerStones().ifPlayed(0, 2), 1);
        Checks.due("not the other's", () -> Boards.drawn(0, "O..", "...", "...").ifPlayed(1, 2), 1);
        Checks.due("two", () -> Boards.drawn(0, "X..", "...", "...").ifPlayed(1, 2), 2);
        Checks.due("four groups joined", () -> Boards.drawn(0, ".X.", "X.X", ".X.").ifPlayed(4, 2), 5);
        Checks.due("across is not joined", () -> Boards.drawn(0, "X.X", "...", "X.X").ifPlayed(4, 2), 1);
        CornerStones most = Boards.drawn(0, ".......", "XXXXXXX", "XXXXXXX", "XXXXXXX", "XXXXXXX", "XXXXXXX", "XXXXXXX");
        Checks.due("43", () -> most.ifPlayed(6, 2), 43);
    }

    private static void wouldBeInAtari() {
        Checks.due("no groups", () -> new CornerStones().ifPlayed(0, 3), 0);
        Checks.due("one that it puts there", () -> Boards.drawn(0, "O..", "...", "...").ifPlayed(1, 3), 1);
        Checks.due("two liberties are left", () -> Boards.drawn(0, ".O.", "...", "...").ifPlayed(0, 3), 0);
        Checks.due("one that was there before", () -> Boards.drawn(0, "OX.", "...", "...").ifPlayed(8, 3), 1);
        Checks.due("those that it takes are none", () -> Boards.drawn(0, "OX.", "...", "...").ifPlayed(3, 3), 0);
        Checks.due("its own are none", () -> Boards.drawn(0, "XO.", "...", "...").ifPlayed(8, 3), 0);
        Checks.due("two at once", () -> Boards.drawn(0, "O.O", "...", "...").ifPlayed(1, 3), 2);
    }

    private static void mayNotBeLaid() {
        CornerStones x = Boards.ko(0);
        CornerStones full = new CornerStones();
        Boards.passTo(full, 120);
        for (int i = 0; i < 4; i++) {
            int what = i;
            Checks.due("not empty", () -> x.ifPlayed(7, what), -1);
            Checks.due("no liberty", () -> x.ifPlayed(0, what), -1);
            Checks.due("the position", () -> x.ifPlayed(6, what), -1);
            Checks.due("it may be laid", () -> x.ifPlayed(24, what) >= 0 ? 1 : 0, 1);
            Checks.due("120 moves", () -> full.ifPlayed(12, what), -1);
        }
        full.undo();
        Checks.due("119 moves", () -> full.ifPlayed(12, 1), 4);
        CornerStones one = Boards.ko(1);
        one.pass();
        one.pass();
        Checks.due("the position with 1", () -> one.ifPlayed(6, 0), -1);
        one.set(0);
        Checks.due("with 0 it may be laid", () -> one.ifPlayed(6, 0), 1);
    }

    private static void takesAtLeastOne() {
        Checks.due("nothing to take", () -> Boards.drawn(0, "O..", "...", "...").bestTake(), -1);
        Checks.due("one", () -> Boards.drawn(0, "OX.", "...", "...").bestTake(), 3);
        Checks.due("all", () -> Boards.fullButOne(7, 1, 0).bestTake(), 0);
        Checks.due("all at the last point", () -> Boards.fullButOne(7, 0, 48).bestTake(), 48);
    }

    private static void takesMost() {
        CornerStones x = Boards.drawn(0, "OX...", ".....", "...XX", "..XOO", "...X.");
        Checks.due("two are more than one", () -> x.bestTake(), 24);
        CornerStones y = Boards.drawn(0, "OOX..", "X....", "....X", "...XO", ".....");
        Checks.due("two at the lower one", () -> y.bestTake(), 6);
        CornerStones z = Boards.drawn(0, "OX...", ".....", ".....", "..X.X", ".XO.O");
        Checks.due("two groups at once", () -> z.bestTake(), 23);
        x.pass();
        Checks.due("the other one takes none", () -> x.bestTake(), -1);
    }

    private static void takesLowest() {
        CornerStones two = Boards.drawn(0, ".OX..", ".X...", ".....", "...X.", "..XO.");
        Checks.due("the first and the last point", () -> two.bestTake(), 0);
        CornerStones three = Boards.drawn(0, "OX.XO", ".....", ".....", ".....", "OX...");
        Checks.due("three", () -> three.bestTake(), 5);
        three.play(5);
        three.pass();
        Checks.due("then two", () -> three.bestTake(), 9);
    }

    private static void takesNone() {
        Checks.due("no stones", () -> new CornerStones().bestTake(), -1);
        CornerStones x = Boards.ko(0);
        Checks.due("the position must not come", () -> x.bestTake(), -1);
        CornerStones other = Boards.drawn(0, ".XO..", "XO.O.", ".XO..", ".....", "...OX");
        other.play(7);
        Checks.due("so it is another one", () -> other.bestTake(), 19);
        other.pass();
        other.pass();
        Checks.due("later it may come", () -> other.bestTake(), 6);
        CornerStones last = Boards.drawn(0, "OX.", "...", "...");
        Boards.passTo(last, 118);
        Checks.due("with 118 moves", () -> last.bestTake(), 3);
        Boards.passTo(last, 120);
        Checks.due("with 120 moves", () -> last.bestTake(), -1);
    }

    private static void choices() {
        for (int rows = 3; rows <= 7; rows++) {
            CornerStones x = new CornerStones();
            int all = rows * rows;
            x.board(rows);
            Checks.due("all", () -> x.choices(), all);
            x.play(all - 1);
            Checks.due("all but one", () -> x.choices(), all - 1);
            CornerStones most = Boards.fullButOne(rows, 0, 0);
            Checks.due("the only one", () -> most.choices(), 1);
            most.pass();
            Checks.due("none", () -> most.choices(), 0);
        }
        CornerStones ko = Boards.ko(0);
        // 18 are empty: at 0 there is no liberty, at 6 the position must not come
        Checks.due("but for what must not be laid", () -> ko.choices(), 16);
        CornerStones last = new CornerStones();
        Boards.passTo(last, 119);
        Checks.due("with 119 moves", () -> last.choices(), 25);
        last.pass();
        Checks.due("with 120 moves", () -> last.choices(), 0);
    }
}
