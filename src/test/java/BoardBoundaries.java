import java.util.TreeSet;

/** The board and what is told of it (promises 1 and 6 to 10): points, sets, groups, liberties, eyes, parts, areas. */
final class BoardBoundaries {
    private BoardBoundaries() {
    }

    static void run() {
        Checks.holds("Promise 1, new object", "Creates an empty board with 5 rows.", BoardBoundaries::newObject);
        Checks.holds("Promise 6, about", "The board has 3 to 7 rows of as many points, at first 5", BoardBoundaries::rows);
        Checks.holds("Promise 13, play", "the point in the row r, in the place c of it, both from 0, has the number"
                + " r * (the rows) + c.", BoardBoundaries::numbers);
        Checks.holds("Promise 9, point", "A point is empty, or has a stone of a colour, 0 or 1.", BoardBoundaries::colours);
        Checks.holds("Promise 10, group", "Neighbours of a point are those next to it in its row and above and below it;",
                BoardBoundaries::neighbours);
        Checks.holds("Promise 9, point", "corners of a point are those next to it across.", BoardBoundaries::corners);
        Checks.holds("Promise 10, group", "Stones of one colour that are neighbours are in one group, and so on from stone"
                + " to stone.", BoardBoundaries::longGroup);
        Checks.holds("Promise 10, group", "The liberties of a group are the empty points that are neighbours of any of its"
                + " stones.", BoardBoundaries::liberties);
        Checks.holds("Promise 7, stones", "Sets of points are told as longs whose bit k (with the value 1L << k) is 1 if"
                + " the point k is in them.", BoardBoundaries::bits);
        Checks.holds("Promise 7, stones", "Returns the points that have them, as a set.", BoardBoundaries::stones);
        eyesAndParts();
        numbersOfAbout();
        numbersOfColour();
        numbersOfPoint();
    }

    private static void eyesAndParts() {
        Checks.holds("Promise 9, point", "An eye of a colour is an empty point all of whose neighbours have stones of that"
                + " colour.", BoardBoundaries::eyes);
        Checks.holds("Promise 9, point", "It is false if, of its corners, 2 or more, or, if it has fewer than four corners,"
                + " 1 or more have stones of the other colour; otherwise it is true.", BoardBoundaries::falseEyes);
        Checks.holds("Promise 9, point", "A part is empty points that are neighbours, and so on from point to point.",
                BoardBoundaries::parts);
        Checks.holds("Promise 8, colour", "The area of a colour is its stones, and the points of all parts all of whose"
                + " neighbours with stones, at least one, have that colour.", BoardBoundaries::areas);
        Checks.holds("Promise 22, lead", "Returns the area of the colour 0, less that of the colour 1.",
                BoardBoundaries::lead);
    }

    private static void numbersOfAbout() {
        Checks.holds("Promise 6, about", "1: the moves so far;", BoardBoundaries::moves);
        Checks.holds("Promise 6, about", "3: the passes so far;", BoardBoundaries::passes);
        Checks.holds("Promise 6, about", "4: 1 if the latest two moves were passes, otherwise 0;", BoardBoundaries::twoPasses);
        Checks.holds("Promise 6, about", "5: the groups;", BoardBoundaries::groups);
        Checks.holds("Promise 6, about", "6: the groups with just one liberty;", BoardBoundaries::oneLiberty);
        Checks.holds("Promise 6, about", "7: setting 0", BoardBoundaries::setting);
    }

    private static void numbersOfColour() {
        Checks.holds("Promise 8, colour", "0: its stones; 1: its captives;", BoardBoundaries::stonesAndCaptives);
        Checks.holds("Promise 8, colour", "3: its true eyes; 4: its false eyes;", BoardBoundaries::countedEyes);
        Checks.holds("Promise 8, colour", "5: its groups", BoardBoundaries::groupsOfColour);
    }

    private static void numbersOfPoint() {
        Checks.holds("Promise 9, point", "0: the colour of its stone, NONE if it is empty;", BoardBoundaries::colourOfPoint);
        Checks.holds("Promise 9, point", "1: the stones of its group, 0 if it is empty;", BoardBoundaries::stonesOfGroup);
        Checks.holds("Promise 9, point", "2: the liberties of its group, how many, 0 if it is empty;",
                BoardBoundaries::libertiesOfGroup);
        Checks.holds("Promise 9, point", "3: 0 if it is no eye, 1 if it is a false eye, 2 if it is a true one;",
                BoardBoundaries::kindOfEye);
        Checks.holds("Promise 9, point", "4: the points of its part, 0 if it is not empty;", BoardBoundaries::pointsOfPart);
        Checks.holds("Promise 9, point", "5: the true eyes that are neighbours of its group, 0 if it is empty",
                BoardBoundaries::eyesOfGroup);
        Checks.holds("Promise 10, group", "Returns that set; 0 if the point is empty.", BoardBoundaries::groupOfNoStone);
    }

    private static void newObject() {
        CornerStones x = new CornerStones();
        Checks.due("the rows", () -> x.about(0), 5);
        Checks.due("stones of 0", () -> x.stones(0), 0);
        Checks.due("stones of 1", () -> x.stones(1), 0);
        Checks.due("the last point", () -> x.point(24, 4), 25);
        Checks.thrown("a point behind it", () -> x.point(25, 4), Checks.INDEX);
        Checks.due("the first move is of the colour 0", () -> x.about(2), 0);
        Checks.due("the length of the text", () -> x.append('B'), 1);
    }

    private static void rows() {
        for (int rows = 3; rows <= 7; rows++) {
            CornerStones x = new CornerStones();
            int r = rows;
            Checks.due("rows at first", () -> x.about(0), 5);
            Checks.due("board " + r, () -> x.board(r), r * r);
            Checks.due("rows", () -> x.about(0), r);
            Checks.due("empty points", () -> x.point(0, 4), r * r);
            Checks.due("the last point", () -> x.why(r * r - 1), 0);
            Checks.thrown("the point behind it", () -> x.why(r * r), Checks.INDEX);
        }
    }

    private static void numbers() {
        for (int rows = 3; rows <= 7; rows++) {
            for (int r = 0; r < rows; r++) {
                for (int c = 0; c < rows; c++) {
                    CornerStones x = new CornerStones();
                    x.board(rows);
                    x.play(r * rows + c);
                    int free = (r > 0 ? 1 : 0) + (r < rows - 1 ? 1 : 0) + (c > 0 ? 1 : 0) + (c < rows - 1 ? 1 : 0);
                    int k = r * rows + c;
                    Checks.due(rows + " rows, row " + r + ", place " + c, () -> x.point(k, 2), free);
                }
            }
        }
        CornerStones x = Boards.drawn(0, "X......", ".......", ".......", ".......", ".......", "O.....X", ".......");
        Checks.due("row 5, place 0", () -> x.point(35, 0), 1);
        Checks.due("row 5, place 6", () -> x.point(41, 0), 0);
        Checks.due("row 6, place 6", () -> x.point(48, 0), -1);
    }

    private static void colours() {
        CornerStones x = new CornerStones();
        Checks.due("empty", () -> x.point(0, 0), -1);
        x.play(0);
        x.play(24);
        Checks.due("the first one's", () -> x.point(0, 0), 0);
        Checks.due("the second one's", () -> x.point(24, 0), 1);
        Checks.due("the last empty one", () -> x.point(23, 0), -1);
        for (int c : new int[] {Integer.MIN_VALUE, -1, 2, Integer.MAX_VALUE}) {
            Checks.thrown("stones " + c, () -> x.stones(c), Checks.INDEX);
            Checks.thrown("colour " + c, () -> x.colour(c, 0), Checks.INDEX);
        }
    }

    private static void neighbours() {
        for (int rows = 3; rows <= 7; rows++) {
            for (int i = 0; i < rows * rows; i++) {
                CornerStones x = new CornerStones();
                int k = i;
                x.board(rows);
                x.play(k);
                Checks.due(rows + " rows, around " + k, () -> x.group(k, 1), Boards.neighbours(rows, k));
                Checks.due(rows + " rows, liberties of " + k, () -> x.point(k, 2),
                        Long.bitCount(Boards.neighbours(rows, k)));
            }
        }
        CornerStones x = Boards.drawn(0, "..X", "X..", "...");
        Checks.due("2 and 3 are not in one row", () -> x.point(2, 1), 1);
        CornerStones y = Boards.drawn(0, "......O", "O......", "......O", "O......", "......O", "O......", "......O");
        Checks.due("nor the ends of longer rows", () -> y.colour(1, 5), 7);
        CornerStones z = Boards.drawn(0, "..X..", ".....", ".....", ".....", "..X..");
        Checks.due("nor is the first row below the last", () -> z.colour(0, 5), 2);
    }

    /** At an eye with one corner of the other colour, or two if it has four, each other point but its corners is none. */
    private static void corners() {
        int seen = 0;
        for (int rows = 3; rows <= 7; rows++) {
            for (int i = 0; i < rows * rows; i++) {
                int k = i;
                long wall = Boards.neighbours(rows, k);
                long corners = Boards.corners(rows, k);
                for (int j = 0; j < rows * rows; j++) {
                    long other = 1L << j;
                    CornerStones x = j == k || (wall & other) != 0 ? null : Boards.laid(rows, wall, other);
                    if (x != null) {
                        boolean isFalse = Long.bitCount(corners) < 4 && (corners & other) != 0;
                        Checks.due(rows + " rows, eye " + k + ", other " + j, () -> x.point(k, 3), isFalse ? 1 : 2);
                        seen++;
                    }
                }
            }
        }
        int boards = seen;
        Checks.due("boards that could be laid", () -> boards > 3000 ? 1 : 0, 1);
        secondCorners();
    }

    private static void secondCorners() {
        for (int k : new int[] {24, 8, 40}) {
            long wall = Boards.neighbours(7, k);
            long corners = Boards.corners(7, k);
            for (int i = 0; i < 49; i++) {
                for (int j = i + 1; j < 49; j++) {
                    long two = 1L << i | 1L << j;
                    boolean open = (two & (wall | 1L << k)) == 0;
                    CornerStones x = open ? Boards.laid(7, wall, two) : null;
                    if (x != null) {
                        Checks.due("eye " + k + ", others " + i + " and " + j, () -> x.point(k, 3),
                                (two & ~corners) == 0 ? 1 : 2);
                    }
                }
            }
        }
    }

    private static final String[] SNAKE =
        {"XXXXXXX", "......X", "XXXXXXX", "X......", "XXXXXXX", "......X", "XXXXXXX"};
    private static final String[] CUT =
        {"XXXXXXX", "......X", "XXXXXXX", ".......", "XXXXXXX", "......X", "XXXXXXX"};
    private static final String[] PATH =
        {".......", "XXXXXX.", ".......", ".XXXXXX", ".......", "XXXXXX.", "......."};

    private static void longGroup() {
        CornerStones x = Boards.drawn(0, SNAKE);
        long all = Boards.signs('X', SNAKE);
        for (int k : new int[] {0, 6, 13, 21, 42, 48}) {
            Checks.due("the whole group from " + k, () -> x.group(k, 0), all);
            Checks.due("its liberties from " + k, () -> x.group(k, 1), ~all & (1L << 49) - 1);
            Checks.due("its stones from " + k, () -> x.point(k, 1), 31);
        }
        Checks.due("one group", () -> x.about(5), 1);
        CornerStones cut = Boards.drawn(0, CUT);
        Checks.due("two groups if one stone is missing", () -> cut.about(5), 2);
        Checks.due("half of it", () -> cut.point(0, 1), 15);
        CornerStones single = Boards.drawn(0, "X.O", ".X.", "O.X");
        Checks.due("across is not together", () -> single.about(5), 5);
        CornerStones both = Boards.drawn(0, ".....", "XXO..", "OO...", ".....", ".....");
        Checks.due("stones of another colour are not in it", () -> both.group(5, 0), Boards.set(5, 6));
        Checks.due("nor in the other's", () -> both.colour(1, 5), 2);
        CornerStones most = Boards.fullButOne(7, 0, 24);
        Checks.due("a group of all points but one", () -> most.point(0, 1), 48);
        Checks.due("as a set", () -> most.group(48, 0), (1L << 49) - 1 & ~(1L << 24));
    }

    private static void liberties() {
        CornerStones bent = Boards.drawn(0, "XX...", "X....", ".....", ".....", ".....");
        Checks.due("a liberty of two stones", () -> bent.group(5, 1), Boards.set(2, 6, 10));
        Checks.due("is counted once", () -> bent.point(0, 2), 3);
        CornerStones beside = Boards.drawn(0, "XO.", "...", "...");
        Checks.due("a stone of the other colour is none", () -> beside.group(0, 1), Boards.set(3));
        Checks.due("one is left", () -> beside.point(0, 2), 1);
        for (int empty : new int[] {0, 3, 4, 8}) {
            CornerStones most = Boards.fullButOne(3, 1, empty);
            int k = empty == 0 ? 8 : 0;
            Checks.due("the only empty point", () -> most.group(k, 1), 1L << empty);
            Checks.due("how many", () -> most.point(k, 2), 1);
        }
        CornerStones lone = Boards.drawn(0, "...", ".X.", "...");
        Checks.due("across is none", () -> lone.group(4, 1), Boards.set(1, 3, 5, 7));
    }

    private static void bits() {
        for (int i = 0; i < 49; i++) {
            int k = i;
            CornerStones x = new CornerStones();
            x.board(7);
            x.play(k);
            Checks.due("the point " + k, () -> x.stones(0), 1L << k);
            Checks.due("its group", () -> x.group(k, 0), 1L << k);
            Checks.due("no other colour", () -> x.stones(1), 0);
        }
        CornerStones x = Boards.drawn(0, "O......", ".......", ".......", ".......", "..OO...", ".......", "......O");
        Checks.due("behind the bit 31", () -> x.stones(1), 1L | 1L << 30 | 1L << 31 | 1L << 48);
        Checks.due("a group behind it", () -> x.group(31, 0), 3L << 30);
        Checks.due("liberties behind it", () -> x.group(30, 1), 1L << 23 | 1L << 24 | 1L << 29 | 1L << 32 | 3L << 37);
    }

    private static void stones() {
        CornerStones none = new CornerStones();
        Checks.due("none of 0", () -> none.stones(0), 0);
        Checks.due("none of 1", () -> none.stones(1), 0);
        for (int rows = 3; rows <= 7; rows++) {
            for (int colour = 0; colour < 2; colour++) {
                int last = rows * rows - 1;
                int c = colour;
                CornerStones most = Boards.fullButOne(rows, c, last);
                Checks.due("all but the last of " + rows, () -> most.stones(c), (1L << last) - 1);
                Checks.due("none of the other colour", () -> most.stones(1 - c), 0);
            }
        }
    }

    private static void eyes() {
        for (int rows = 3; rows <= 7; rows++) {
            for (int i = 0; i < 2 * rows * rows; i++) {
                int k = i / 2;
                int c = i % 2;
                long wall = Boards.neighbours(rows, k);
                eyeIs(rows, k, c, wall, 0, 2);
                eyeIs(rows, k, c, 0, 0, 0);
                for (int n = 0; n < rows * rows; n++) {
                    if ((wall >>> n & 1) != 0) {
                        eyeIs(rows, k, c, wall & ~(1L << n), 0, 0);
                        eyeIs(rows, k, c, wall & ~(1L << n), 1L << n, 0);
                    }
                }
            }
        }
        CornerStones own = Boards.drawn(0, "XX.", "X..", "...");
        Checks.due("a point with a stone is none", () -> own.point(0, 3), 0);
        CornerStones taken = Boards.drawn(1, ".X.", "X..", "...");
        Checks.due("an eye whoever has the turn", () -> taken.point(0, 3), 2);
    }

    /** Checks one point on a board with these stones of the colour and of the other one, if it can be laid. */
    private static boolean eyeIs(int rows, int k, int c, long own, long other, int want) {
        CornerStones x = Boards.laid(rows, c == 0 ? own : other, c == 0 ? other : own);
        if (x == null) {
            return false;
        }
        Checks.due(rows + " rows, eye " + k + " of " + c + ", own " + own + ", other " + other, () -> x.point(k, 3), want);
        return true;
    }

    private static void falseEyes() {
        TreeSet<String> seen = new TreeSet<>();
        for (int rows = 3; rows <= 7; rows++) {
            for (int i = 0; i < 2 * rows * rows; i++) {
                int k = i / 2;
                long wall = Boards.neighbours(rows, k);
                long corners = Boards.corners(rows, k);
                // each set of corners: the next one below with the corners' bits alone
                for (long other = corners; ; other = (other - 1) & corners) {
                    int all = Long.bitCount(corners);
                    int count = Long.bitCount(other);
                    int want = count >= 2 || (all < 4 && count >= 1) ? 1 : 2;
                    if (eyeIs(rows, k, i % 2, wall, other, want) && eyeIs(rows, k, i % 2, wall | corners & ~other, other, want)) {
                        seen.add(count + " of " + all);
                    }
                    if (other == 0) {
                        break;
                    }
                }
            }
        }
        Checks.same("how many corners", seen.toString(),
                "[0 of 1, 0 of 2, 0 of 4, 1 of 1, 1 of 2, 1 of 4, 2 of 2, 2 of 4, 3 of 4, 4 of 4]");
    }

    private static void parts() {
        CornerStones path = Boards.drawn(0, PATH);
        for (int k : new int[] {0, 6, 13, 21, 42, 48}) {
            Checks.due("a long part from " + k, () -> path.point(k, 4), 31);
        }
        CornerStones other = Boards.laid(7, 0, Boards.signs('X', PATH));
        Checks.due("a long part beside the colour 1", () -> other.point(48, 4), 31);
        CornerStones mixed = Boards.drawn(0, ".X.", "XO.", ".O.");
        Checks.due("beside both colours", () -> mixed.point(2, 4), 3);
        Checks.due("a part of one beside both", () -> mixed.point(6, 4), 1);
        CornerStones two = Boards.drawn(0, ".X.", "XX.", "...");
        Checks.due("a part of one", () -> two.point(0, 4), 1);
        Checks.due("the other one", () -> two.point(2, 4), 5);
        CornerStones across = Boards.drawn(0, ".X.", "X.X", ".X.");
        Checks.due("across is not together", () -> across.point(4, 4), 1);
        CornerStones ends = Boards.drawn(0, "XX.", ".XX", "XXX");
        Checks.due("nor are the ends of two rows", () -> ends.point(2, 4), 1);
    }

    private static void areasAre(CornerStones x, int zero, int one) {
        Checks.due("the area of 0", () -> x.colour(0, 2), zero);
        Checks.due("the area of 1", () -> x.colour(1, 2), one);
    }

    private static void areas() {
        for (int rows = 3; rows <= 7; rows++) {
            CornerStones x = new CornerStones();
            int all = rows * rows;
            x.board(rows);
            areasAre(x, 0, 0);
            x.play(0);
            areasAre(x, all, 0);
            x.play(all - 1);
            areasAre(x, 1, 1);
            areasAre(Boards.fullButOne(rows, 1, rows), 0, all);
        }
        areasAre(Boards.drawn(0, PATH), 49, 0);
        // a part beside one stone of the other colour alone is nobody's
        areasAre(Boards.drawn(0, ".X.", "XX.", "..O"), 4, 1);
        areasAre(Boards.drawn(0, ".XO", "XXO", "OO."), 4, 5);
        areasAre(Boards.drawn(0, "..XO.", "XXXO.", "OOOO.", ".....", "....."), 6, 19);
        // it touches both colours only at its farthest end
        areasAre(Boards.drawn(0, ".......", "XXXXXX.", ".......", ".XXXXXX", ".......", "XXXXXX.", "O......"), 18, 1);
    }

    private static void lead() {
        CornerStones x = new CornerStones();
        x.board(7);
        Checks.due("nobody has more", () -> x.lead(), 0);
        x.play(48);
        Checks.due("all that there is", () -> x.lead(), 49);
        CornerStones y = Boards.fullButOne(7, 1, 0);
        Checks.due("nothing of it", () -> y.lead(), -49);
        CornerStones z = Boards.drawn(0, ".X.", "XX.", "..O");
        Checks.due("some more", () -> z.lead(), 3);
        Checks.due("each one's", () -> Boards.drawn(0, "X..", "...", "..O").lead(), 0);
    }

    private static void moves() {
        CornerStones x = new CornerStones();
        x.board(7);
        for (int i = 0; i < 120; i++) {
            int n = i;
            Checks.due("moves", () -> x.about(1), n);
            if (i % 2 == 0 && i < 90) {
                x.play(i / 2);
            } else {
                x.pass();
            }
        }
        Checks.due("the most", () -> x.about(1), 120);
        Checks.thrown("one more", () -> x.pass(), Checks.STATE);
        Checks.due("is not counted", () -> x.about(1), 120);
    }

    private static void passes() {
        CornerStones x = new CornerStones();
        Checks.due("none", () -> x.about(3), 0);
        x.play(0);
        Checks.due("a stone is none", () -> x.about(3), 0);
        for (int i = 1; i < 120; i++) {
            int n = i;
            x.pass();
            Checks.due("passes", () -> x.about(3), n);
        }
        CornerStones y = new CornerStones();
        Boards.passTo(y, 120);
        Checks.due("the most", () -> y.about(3), 120);
        CornerStones z = Boards.loaded("B3p00p01pp02");
        Checks.due("all of them, not those in a row", () -> z.about(3), 4);
    }

    private static void twoPasses() {
        CornerStones x = new CornerStones();
        Checks.due("no moves", () -> x.about(4), 0);
        x.pass();
        Checks.due("the only move is one", () -> x.about(4), 0);
        x.pass();
        Checks.due("the only two moves", () -> x.about(4), 1);
        x.pass();
        Checks.due("three", () -> x.about(4), 1);
        x.play(0);
        Checks.due("the latest is none", () -> x.about(4), 0);
        x.pass();
        Checks.due("the latest but one is none", () -> x.about(4), 0);
        x.pass();
        Checks.due("both again", () -> x.about(4), 1);
        Boards.passTo(x, 120);
        Checks.due("with the most moves", () -> x.about(4), 1);
        x.board(5);
        Checks.due("on another board", () -> x.about(4), 0);
        x.pass();
        Checks.due("one pass on it", () -> x.about(4), 0);
        x.undo();
        x.undo();
        Checks.due("on the board before", () -> x.about(4), 1);
    }

    private static void groups() {
        CornerStones x = new CornerStones();
        Checks.due("none", () -> x.about(5), 0);
        x.play(0);
        Checks.due("one", () -> x.about(5), 1);
        x.play(1);
        Checks.due("one of each colour", () -> x.about(5), 2);
        CornerStones most = Boards.drawn(0, "X.X.X.X", ".O.O.O.", "X.X.X.X", ".O.O.O.", "X.X.X.X", ".O.O.O.", "X.X.X.X");
        Checks.due("many", () -> most.about(5), 25);
        CornerStones one = Boards.fullButOne(7, 0, 48);
        Checks.due("a full board but one", () -> one.about(5), 1);
    }

    private static void oneLiberty() {
        CornerStones x = new CornerStones();
        Checks.due("no groups", () -> x.about(6), 0);
        Checks.due("two liberties", () -> Boards.drawn(0, "X..", "...", "...").about(6), 0);
        Checks.due("one liberty", () -> Boards.drawn(0, "XO.", "...", "...").about(6), 1);
        Checks.due("one liberty of each colour", () -> Boards.drawn(0, "XO.", "...", ".XO").about(6), 2);
        Checks.due("that of 1 alone", () -> Boards.drawn(0, "OX.", "...", "...").about(6), 1);
        Checks.due("a group is counted once", () -> Boards.fullButOne(7, 1, 24).about(6), 1);
        Checks.due("the same liberty of two groups", () -> Boards.drawn(0, "X.X", "O.O", "...").about(6), 2);
    }

    private static void setting() {
        CornerStones x = new CornerStones();
        Checks.due("at first", () -> x.about(7), 0);
        x.set(1);
        Checks.due("changed", () -> x.about(7), 1);
        x.set(0);
        Checks.due("changed back", () -> x.about(7), 0);
    }

    private static void stonesAndCaptives() {
        CornerStones x = new CornerStones();
        for (int i = 0; i < 2; i++) {
            int c = i;
            Checks.due("no stones", () -> x.colour(c, 0), 0);
            Checks.due("no captives", () -> x.colour(c, 1), 0);
            CornerStones most = Boards.fullButOne(7, 1 - c, 48);
            Checks.due("48 stones", () -> most.colour(1 - c, 0), 48);
            most.play(48);
            Checks.due("none of them is left", () -> most.colour(1 - c, 0), 0);
            Checks.due("one stone", () -> most.colour(c, 0), 1);
            Checks.due("48 captives", () -> most.colour(c, 1), 48);
            Checks.due("none of the other one", () -> most.colour(1 - c, 1), 0);
        }
    }

    private static void countedEyes() {
        CornerStones none = new CornerStones();
        CornerStones mixed = Boards.drawn(0, ".X.X.", "XXOX.", "..X..", "OO..O", ".O.O.");
        for (int i = 0; i < 2; i++) {
            int c = i;
            Checks.due("none", () -> none.colour(c, 3) + none.colour(c, 4), 0);
        }
        Checks.due("true ones of 0", () -> mixed.colour(0, 3), 1);
        Checks.due("false ones of 0", () -> mixed.colour(0, 4), 0);
        Checks.due("true ones of 1", () -> mixed.colour(1, 3), 2);
        Checks.due("false ones of 1", () -> mixed.colour(1, 4), 0);
        CornerStones wrong = Boards.drawn(0, ".X.X.", "XO.OX", ".....", "...XO", "...O.");
        Checks.due("no true one of 0", () -> wrong.colour(0, 3), 0);
        Checks.due("false ones of 0", () -> wrong.colour(0, 4), 2);
        Checks.due("no true one of 1", () -> wrong.colour(1, 3), 0);
        Checks.due("a false one of 1", () -> wrong.colour(1, 4), 1);
        CornerStones many = Boards.drawn(0, ".X.X.X.", "X.X.X.X", ".X.X.X.", "X.X.X.X", ".X.X.X.", "X.X.X.X", ".X.X.X.");
        Checks.due("25 eyes", () -> many.colour(0, 3), 25);
        Checks.due("none of them false", () -> many.colour(0, 4) + many.colour(1, 3) + many.colour(1, 4), 0);
    }

    private static void groupsOfColour() {
        CornerStones x = new CornerStones();
        Checks.due("none of 0", () -> x.colour(0, 5), 0);
        Checks.due("none of 1", () -> x.colour(1, 5), 0);
        x.play(24);
        Checks.due("one of 0", () -> x.colour(0, 5), 1);
        Checks.due("still none of 1", () -> x.colour(1, 5), 0);
        CornerStones most = Boards.drawn(0, "X.X.X.X", ".X.X.X.", "X.X.X.X", ".X.X.X.", "X.X.X.X", ".X.X.X.", "X.X.X.X");
        Checks.due("as many as can be", () -> most.colour(0, 5), 25);
        Checks.due("a full board but one", () -> Boards.fullButOne(7, 1, 0).colour(1, 5), 1);
    }

    private static void colourOfPoint() {
        CornerStones x = Boards.drawn(0, "X.O", "...", "O.X");
        int[] want = {0, -1, 1, -1, -1, -1, 1, -1, 0};
        for (int i = 0; i < want.length; i++) {
            int k = i;
            Checks.due("the point " + k, () -> x.point(k, 0), want[k]);
        }
    }

    private static void stonesOfGroup() {
        CornerStones x = Boards.drawn(0, "XX.", ".XO", "O..");
        Checks.due("three", () -> x.point(4, 1), 3);
        Checks.due("one", () -> x.point(6, 1), 1);
        Checks.due("an empty point", () -> x.point(2, 1), 0);
        Checks.due("48", () -> Boards.fullButOne(7, 0, 0).point(48, 1), 48);
        Checks.due("the empty one", () -> Boards.fullButOne(7, 0, 0).point(0, 1), 0);
    }

    private static void libertiesOfGroup() {
        CornerStones x = Boards.drawn(0, "XX.", ".XO", "O..");
        Checks.due("three", () -> x.point(0, 2), 3);
        Checks.due("two", () -> x.point(5, 2), 2);
        Checks.due("an empty point", () -> x.point(2, 2), 0);
        Checks.due("one", () -> Boards.fullButOne(7, 0, 0).point(48, 2), 1);
        Checks.due("the most", () -> Boards.drawn(0, SNAKE).point(24, 1), 0);
        Checks.due("18", () -> Boards.drawn(0, SNAKE).point(0, 2), 18);
    }

    private static void kindOfEye() {
        CornerStones x = Boards.drawn(0, ".X..O", "XO.O.", ".....", ".....", ".....");
        Checks.due("a false one", () -> x.point(0, 3), 1);
        Checks.due("none", () -> x.point(2, 3), 0);
        Checks.due("a stone", () -> x.point(1, 3), 0);
        CornerStones y = Boards.drawn(0, ".X..O", "X..O.", ".....", ".....", ".....");
        Checks.due("a true one", () -> y.point(0, 3), 2);
        CornerStones ones = Boards.drawn(0, ".....", ".....", ".....", "...XO", "...O.");
        Checks.due("a false one of 1", () -> ones.point(24, 3), 1);
        CornerStones best = Boards.drawn(0, ".....", ".....", ".....", "....O", "...O.");
        Checks.due("a true one of 1", () -> best.point(24, 3), 2);
        Checks.due("no stones at all", () -> new CornerStones().point(12, 3), 0);
    }

    private static void pointsOfPart() {
        for (int rows = 3; rows <= 7; rows++) {
            CornerStones x = new CornerStones();
            int all = rows * rows;
            x.board(rows);
            Checks.due("the whole board", () -> x.point(all - 1, 4), all);
            x.play(0);
            Checks.due("all but one", () -> x.point(all - 1, 4), all - 1);
            Checks.due("a stone", () -> x.point(0, 4), 0);
            x.play(1);
            Checks.due("all but two", () -> x.point(all - 1, 4), all - 2);
            Checks.due("a stone of 1", () -> x.point(1, 4), 0);
            for (int colour = 0; colour < 2; colour++) {
                CornerStones most = Boards.fullButOne(rows, colour, all - 1);
                Checks.due("only one", () -> most.point(all - 1, 4), 1);
                Checks.due("a stone of many", () -> most.point(all - 2, 4), 0);
            }
        }
    }

    private static void eyesOfGroup() {
        CornerStones x = Boards.drawn(0, ".X.X.", "XX.XX", ".....", ".....", ".....");
        Checks.due("one for the left group", () -> x.point(5, 5), 1);
        Checks.due("one for the right group", () -> x.point(9, 5), 1);
        Checks.due("an eye itself", () -> x.point(0, 5), 0);
        CornerStones whole = Boards.drawn(0, ".X.X.", "XXXXX", ".....", ".....", ".....");
        Checks.due("three", () -> whole.point(5, 5), 3);
        Checks.due("beside two stones of the group it is one", () -> Boards.drawn(0, ".X.", "XX.", "...").point(4, 5), 1);
        CornerStones bad = Boards.drawn(0, ".X...", "XO...", ".....", ".....", ".....");
        Checks.due("a false one is none", () -> bad.point(1, 5), 0);
        Checks.due("nor is it the other one's", () -> bad.point(6, 5), 0);
        Checks.due("none", () -> Boards.drawn(0, "X..", "...", "...").point(0, 5), 0);
        Checks.due("the only empty point", () -> Boards.fullButOne(7, 1, 48).point(0, 5), 1);
        CornerStones shared = Boards.drawn(0, ".X.", "X..", "...");
        Checks.due("an eye of two groups, the one", () -> shared.point(1, 5), 1);
        Checks.due("and the other one", () -> shared.point(3, 5), 1);
    }

    private static void groupOfNoStone() {
        CornerStones x = Boards.drawn(0, "XX.", "...", "..O");
        Checks.due("no group", () -> x.group(2, 0), 0);
        Checks.due("no liberties", () -> x.group(2, 1), 0);
        Checks.due("a group", () -> x.group(1, 0), Boards.set(0, 1));
        Checks.due("its liberties", () -> x.group(1, 1), Boards.set(2, 3, 4));
        Checks.due("the last point", () -> x.group(8, 0), Boards.set(8));
        Checks.due("one left empty", () -> Boards.fullButOne(7, 0, 48).group(48, 0), 0);
    }
}
