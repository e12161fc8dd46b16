/** At least one test for each promise of the document: ordinary calls, the edges that it names, and wrong ones. */
public final class PromisesTest {
    private PromisesTest() {
    }

    public static void main(String[] args) {
        newObject();
        append();
        clearText();
        errorPosition();
        load();
        loadForgets();
        about();
        stonesAndGroup();
        colour();
        point();
        falseEyes();
        whyEmptyAndLiberty();
        whyTheSameAgain();
        whyAnyAgain();
        whyWithSet();
        whyTwoMovesBefore();
        mostMoves();
        board();
        play();
        passes();
        set();
        undo();
        ifPlayed();
        bestTakeAndChoices();
        ladderToTheEdge();
        ladderThatFails();
        ladderOfAtMostTwelve();
        chase();
        lead();
        scriptCommands();
        scriptArguments();
        simulate();
        saveAndRestore();
        Checks.end("PromisesTest");
    }

    private static void newObject() {
        CornerStones x = new CornerStones();
        Checks.due("NONE", () -> CornerStones.NONE, -1);
        Checks.due("new: rows", () -> x.about(0), 5);
        for (int what = 1; what <= 7; what++) {
            int w = what;
            Checks.due("new: about " + w, () -> x.about(w), 0);
        }
        Checks.due("new: stones", () -> x.stones(0) | x.stones(1), 0);
        Checks.due("new: choices", () -> x.choices(), 25);
        Checks.due("new: the text", () -> x.errorPosition(), 0);
        Checks.thrown("new: undo", () -> x.undo(), Checks.STATE);
        Checks.thrown("new: restore 0", () -> x.restore(0), Checks.STATE);
        Checks.thrown("new: restore 1", () -> x.restore(1), Checks.STATE);
        Checks.thrown("new: load", () -> x.load(), Checks.STATE);
        Checks.due("new: clearText", () -> x.clearText(), 0);
    }

    private static void append() {
        CornerStones x = new CornerStones();
        Checks.thrown("append -1", () -> x.append(-1), Checks.ARGUMENT);
        Checks.thrown("append 256", () -> x.append(256), Checks.ARGUMENT);
        Checks.thrown("append 65536 + 66", () -> x.append(65536 + 66), Checks.ARGUMENT);
        Checks.due("append 0", () -> x.append(0), 1);
        Checks.due("append 255", () -> x.append(255), 2);
        for (int i = 3; i <= 120; i++) {
            int length = i;
            Checks.due("append the character " + i, () -> x.append('p'), length);
        }
        Checks.thrown("append to a full text", () -> x.append('p'), Checks.STATE);
        Checks.thrown("append a wrong one to a full text", () -> x.append(256), Checks.ARGUMENT);
        Checks.due("the full text", () -> x.clearText(), 120);
        Checks.due("append again", () -> x.append('B'), 1);
    }

    private static void clearText() {
        CornerStones x = new CornerStones();
        Boards.write(x, "B5p");
        Checks.due("clearText", () -> x.clearText(), 3);
        Checks.due("clearText again", () -> x.clearText(), 0);
        Checks.due("nothing is left", () -> x.errorPosition(), 0);
        Boards.write(x, "B5");
        x.board(3);
        x.undo();
        Checks.due("undo keeps the text", () -> x.clearText(), 2);
        Checks.thrown("clearText is no action", () -> x.undo(), Checks.STATE);
    }

    private static void errorPosition() {
        String[] games = {"B3", "B7", "B5s", "B500", "B548", "B539", "B5p", "B5spp00", "B3484848", "B5s09p10"};
        for (String text : games) {
            erring(text, -1);
        }
        erring("", 0);
        erring("b5", 0);
        erring("5", 0);
        erring("B", 1);
        erring("B2", 1);
        erring("B8", 1);
        erring("Bs", 1);
        erring("B5S", 2);
        erring("B5 ", 2);
        erring("B55", 2);
        erring("B59", 2);
        erring("B5ss", 3);
        erring("B5ps", 3);
        erring("B500s", 4);
        erring("B50", 3);
        erring("B54", 3);
        erring("B5p4", 4);
        erring("B549", 3);
        erring("B50p", 3);
        erring("B50:", 3);
        erring("B50/", 3);
        erring("B54/", 3);
        erring("B5" + (char) 176 + "0", 2);
        erring("B5P", 2);
        erring("BB5", 1);
        erring("B5s" + "p".repeat(117), -1);
        erring("B5s" + "p".repeat(116) + "1", 120);
        erring("B5" + "48".repeat(59), -1);
    }

    private static void erring(String text, int want) {
        CornerStones x = new CornerStones();
        Boards.write(x, text);
        Checks.due("errorPosition of " + text, () -> x.errorPosition(), want);
        if (want == -1) {
            Checks.same("load " + text, Boolean.toString(Checks.told(() -> x.load()).startsWith("throws")), "false");
        } else {
            Checks.thrown("load " + text, () -> x.load(), Checks.STATE);
        }
    }

    private static void load() {
        CornerStones x = new CornerStones();
        // the 16 is not on the board, the second 00 not empty; the moves left out are no turns
        Boards.write(x, "B40016p0000p01");
        Checks.due("load", () -> x.load(), 3);
        Boards.same(x, "XO..", "....", "....", "....");
        Checks.due("moves that were done", () -> x.about(1), 4);
        Checks.due("passes that were done", () -> x.about(3), 2);
        Checks.due("load keeps the text", () -> x.load(), 3);
        Checks.due("setting 0 behind it", () -> x.about(7), 0);
        Boards.write(x, "B3s");
        Checks.due("load without moves", () -> x.load(), 0);
        Checks.due("setting 0 behind the s", () -> x.about(7), 1);
        Checks.due("the rows that are told", () -> x.about(0), 3);
        Boards.write(x, "B7");
        x.load();
        Checks.due("without s setting 0 is 0", () -> x.about(7), 0);
        Checks.due("the rows that are told then", () -> x.about(0), 7);
        Boards.write(x, "B548");
        Checks.due("a point of a larger board is left out", () -> x.load(), 1);
        Boards.write(x, "B748");
        Checks.due("a point of this board is not", () -> x.load(), 0);
    }

    private static void loadForgets() {
        CornerStones x = Boards.drawn(0, "OX.", "...", "...");
        x.set(1);
        x.play(3);
        x.save(0);
        x.save(1);
        Checks.due("captives before", () -> x.colour(0, 1), 1);
        Boards.write(x, "B5x");
        Checks.thrown("load what is no game", () -> x.load(), Checks.STATE);
        Checks.due("that changes nothing", () -> x.about(0), 3);
        Checks.due("nor the save slots", () -> x.restore(1), x.about(1));
        x.set(1);
        Boards.write(x, "B3");
        Checks.due("load", () -> x.load(), 0);
        Boards.same(x, "...", "...", "...");
        Checks.due("captives behind it", () -> x.colour(0, 1), 0);
        Checks.due("moves behind it", () -> x.about(1), 0);
        Checks.due("setting 0 behind it", () -> x.about(7), 0);
        Checks.thrown("undo behind it", () -> x.undo(), Checks.STATE);
        Checks.thrown("slot 0 behind it", () -> x.restore(0), Checks.STATE);
        Checks.thrown("slot 1 behind it", () -> x.restore(1), Checks.STATE);
    }

    private static void about() {
        CornerStones x = Boards.drawn(1, ".O.O", "OO..", "..X.", "....");
        Checks.due("the rows", () -> x.about(0), 4);
        Checks.due("the colour that has the turn", () -> x.about(2), 1);
        Checks.due("the groups", () -> x.about(5), 3);
        Checks.due("those with just one liberty", () -> x.about(6), 0);
        x.play(0);
        Checks.due("the groups then", () -> x.about(5), 3);
        int moves = x.about(1);
        x.board(3);
        Checks.due("moves", () -> x.about(1), 0);
        x.play(0);
        x.pass();
        Checks.due("one pass is not two", () -> x.about(4), 0);
        x.pass();
        Checks.due("the latest two moves were passes", () -> x.about(4), 1);
        x.pass();
        Checks.due("so were they with three", () -> x.about(4), 1);
        Checks.due("the passes", () -> x.about(3), 3);
        x.play(4);
        Checks.due("the latest move was none", () -> x.about(4), 0);
        x.pass();
        Checks.due("the latest but one was none", () -> x.about(4), 0);
        Checks.due("the passes of all moves", () -> x.about(3), 4);
        Checks.due("all moves", () -> x.about(1), 6);
        Checks.due("the colour with the turn", () -> x.about(2), 0);
        x.set(1);
        Checks.due("setting 0", () -> x.about(7), 1);
        CornerStones y = Boards.drawn(0, "XO.", "...", "..O");
        Checks.due("a group with just one liberty", () -> y.about(6), 1);
        Checks.due("all groups", () -> y.about(5), 3);
        Checks.due("moves before", () -> moves > 0 ? 1 : 0, 1);
        Checks.thrown("about -1", () -> y.about(-1), Checks.ARGUMENT);
        Checks.thrown("about 8", () -> y.about(8), Checks.ARGUMENT);
    }

    private static void stonesAndGroup() {
        CornerStones x = Boards.drawn(0, ".XX.O", "...X.", "..O..", ".....", "X...X");
        Checks.due("stones 0", () -> x.stones(0), Boards.set(1, 2, 8, 20, 24));
        Checks.due("stones 1", () -> x.stones(1), Boards.set(4, 12));
        Checks.thrown("stones -1", () -> x.stones(-1), Checks.INDEX);
        Checks.thrown("stones 2", () -> x.stones(2), Checks.INDEX);
        Checks.due("across is no neighbour", () -> x.group(2, 0), Boards.set(1, 2));
        Checks.due("its liberties", () -> x.group(1, 1), Boards.set(0, 3, 6, 7));
        // 4 and 5, 19 and 20 have numbers side by side, but are not in one row
        Checks.due("the ends of rows are no neighbours", () -> x.group(4, 1), Boards.set(3, 9));
        Checks.due("nor are they at the left edge", () -> x.group(20, 1), Boards.set(15, 21));
        Checks.due("the last point", () -> x.group(24, 1), Boards.set(19, 23));
        Checks.due("an empty point", () -> x.group(0, 0), 0);
        Checks.due("an empty point's liberties", () -> x.group(0, 1), 0);
        Checks.thrown("group -1", () -> x.group(-1, 0), Checks.INDEX);
        Checks.thrown("group 25", () -> x.group(25, 0), Checks.INDEX);
        Checks.thrown("group 25, 2", () -> x.group(25, 2), Checks.INDEX);
        Checks.thrown("group 0, 2", () -> x.group(0, 2), Checks.ARGUMENT);
        Checks.thrown("group 1, -1", () -> x.group(1, -1), Checks.ARGUMENT);
        CornerStones y = Boards.drawn(0, ".......", ".......", ".......", "...X...", ".......", "......O", ".....OO");
        Checks.due("the last point of the largest board", () -> y.stones(1), Boards.set(41, 47, 48));
        Checks.due("its group's liberties", () -> y.group(48, 1), Boards.set(34, 40, 46));
        Checks.due("in the middle", () -> y.group(24, 1), Boards.set(17, 23, 25, 31));
    }

    private static void colour() {
        // the part of 0 and 1 has neighbours of X alone, that of 4 of O alone, the others of both
        CornerStones x = Boards.drawn(0, "..XO.", "XXX.O", ".....", "....X", ".....");
        Checks.due("stones of 0", () -> x.colour(0, 0), 5);
        Checks.due("area of 0", () -> x.colour(0, 2), 7);
        Checks.due("groups of 0", () -> x.colour(0, 5), 2);
        Checks.due("true eyes of 0", () -> x.colour(0, 3), 0);
        Checks.due("stones of 1", () -> x.colour(1, 0), 2);
        Checks.due("area of 1", () -> x.colour(1, 2), 3);
        Checks.due("groups of 1", () -> x.colour(1, 5), 2);
        Checks.due("true eyes of 1", () -> x.colour(1, 3), 1);
        Checks.due("false eyes of 1", () -> x.colour(1, 4), 0);
        Checks.due("captives", () -> x.colour(0, 1) + x.colour(1, 1), 0);
        CornerStones y = Boards.drawn(0, "OX.", "...", "...");
        y.play(3);
        Checks.due("captives of the one who laid", () -> y.colour(0, 1), 1);
        Checks.due("captives of the other one", () -> y.colour(1, 1), 0);
        Checks.due("the whole board", () -> y.colour(0, 2), 9);
        Checks.thrown("colour -1", () -> y.colour(-1, 0), Checks.INDEX);
        Checks.thrown("colour 2", () -> y.colour(2, 0), Checks.INDEX);
        Checks.thrown("colour 2, 6", () -> y.colour(2, 6), Checks.INDEX);
        Checks.thrown("colour 0, 6", () -> y.colour(0, 6), Checks.ARGUMENT);
        Checks.thrown("colour 1, -1", () -> y.colour(1, -1), Checks.ARGUMENT);
        CornerStones empty = new CornerStones();
        Checks.due("an empty board is no area", () -> empty.colour(0, 2) + empty.colour(1, 2), 0);
    }

    private static void point() {
        CornerStones x = Boards.drawn(0, ".XX.O", "XX...", ".....", "..O..", "..OO.");
        pointIs(x, 2, 0, 4, 5, 0, 0, 1);
        pointIs(x, 0, -1, 0, 0, 2, 1, 0);
        pointIs(x, 8, -1, 0, 0, 0, 16, 0);
        pointIs(x, 22, 1, 3, 5, 0, 0, 0);
        pointIs(x, 4, 1, 1, 2, 0, 0, 0);
        Checks.thrown("point -1", () -> x.point(-1, 0), Checks.INDEX);
        Checks.thrown("point 25", () -> x.point(25, 0), Checks.INDEX);
        Checks.thrown("point 25, 6", () -> x.point(25, 6), Checks.INDEX);
        Checks.thrown("point 0, 6", () -> x.point(0, 6), Checks.ARGUMENT);
        Checks.thrown("point 24, -1", () -> x.point(24, -1), Checks.ARGUMENT);
        CornerStones y = Boards.drawn(0, ".X.X.", "XXXX.", ".....", ".....", ".....");
        Checks.due("two true eyes beside a group", () -> y.point(6, 5), 2);
        Checks.due("none beside no stone", () -> y.point(0, 5), 0);
    }

    static void pointIs(CornerStones x, int k, int... want) {
        for (int what = 0; what < want.length; what++) {
            int w = what;
            Checks.due("point " + k + ", " + w, () -> x.point(k, w), want[w]);
        }
    }

    private static void falseEyes() {
        CornerStones inner = Boards.drawn(0, ".....", "..XO.", ".X.X.", "..X..", ".....");
        Checks.due("one corner of four", () -> inner.point(12, 3), 2);
        CornerStones two = Boards.drawn(0, ".....", ".OX..", ".X.X.", "..XO.", ".....");
        Checks.due("two corners of four", () -> two.point(12, 3), 1);
        Checks.due("counted as false", () -> two.colour(0, 4), 1);
        Checks.due("not as true", () -> two.colour(0, 3), 0);
        CornerStones edge = Boards.drawn(0, ".X.X.", ".OX..", ".....", ".....", ".....");
        Checks.due("one corner of two", () -> edge.point(2, 3), 1);
        CornerStones clear = Boards.drawn(0, ".X.X.", ".XX..", ".....", ".....", ".....");
        Checks.due("an own stone in the corner", () -> clear.point(2, 3), 2);
        CornerStones wrapped = Boards.drawn(0, "..X..", "XX..X", "...X.", "O...X", ".....");
        Checks.due("the row's other end is no corner", () -> wrapped.point(14, 3), 2);
        CornerStones corner = Boards.drawn(0, ".X...", "XO...", ".....", ".....", ".....");
        Checks.due("the only corner of one", () -> corner.point(0, 3), 1);
        Checks.due("false eyes are none beside the group", () -> corner.point(1, 5), 0);
        CornerStones mixed = Boards.drawn(0, ".....", "..X..", ".X.O.", "..X..", ".....");
        Checks.due("a neighbour of the other colour", () -> mixed.point(12, 3), 0);
        CornerStones open = Boards.drawn(0, ".....", "..X..", ".X...", "..X..", ".....");
        Checks.due("an empty neighbour", () -> open.point(12, 3), 0);
        CornerStones others = Boards.drawn(0, ".X...", "O....", ".....", "....X", "...X.");
        Checks.due("both colours at a corner point", () -> others.point(0, 3), 0);
        Checks.due("at the last point", () -> others.point(24, 3), 2);
    }

    private static void whyEmptyAndLiberty() {
        CornerStones x = Boards.drawn(0, ".O.", "OO.", "..X");
        Checks.due("may be laid", () -> x.why(2), 0);
        Checks.due("not empty, an own stone", () -> x.why(8), 1);
        Checks.due("not empty, another's", () -> x.why(1), 1);
        Checks.due("without a liberty", () -> x.why(0), 2);
        Checks.thrown("why -1", () -> x.why(-1), Checks.INDEX);
        Checks.thrown("why 9", () -> x.why(9), Checks.INDEX);
        Checks.thrown("why of the lowest", () -> x.why(Integer.MIN_VALUE), Checks.INDEX);
        Checks.thrown("why of the highest", () -> x.why(Integer.MAX_VALUE), Checks.INDEX);
        x.pass();
        Checks.due("its owner may", () -> x.why(0), 0);
        CornerStones taking = Boards.drawn(0, ".OX", "OX.", "X..");
        Checks.due("a stone that takes has liberties", () -> taking.why(0), 0);
        CornerStones joined = Boards.drawn(0, ".XO", "OO.", "...");
        Checks.due("its group would have none", () -> joined.why(0), 2);
    }

    private static void whyTheSameAgain() {
        CornerStones x = Boards.ko(0);
        Checks.due("the position ahead of the latest move", () -> x.why(6), 3);
        Checks.thrown("nor is it laid", () -> x.play(6), Checks.STATE);
        Checks.due("nor is it told what it would take", () -> x.ifPlayed(6, 0), -1);
        x.play(24);
        x.play(23);
        Checks.due("two moves later it may come", () -> x.why(6), 0);
        x.undo();
        x.undo();
        Checks.due("undo brings it back", () -> x.why(6), 3);
        x.pass();
        x.pass();
        Checks.due("two passes later too", () -> x.why(6), 0);
        Checks.due("taken back", () -> x.play(6), 1);
        Checks.due("now the other one", () -> x.why(7), 3);
        CornerStones first = new CornerStones();
        Checks.due("ahead of the first move there is none", () -> first.why(0), 0);
    }

    private static void whyAnyAgain() {
        CornerStones x = Boards.ko(1);
        Checks.due("any position that there was", () -> x.why(6), 3);
        x.pass();
        x.pass();
        Checks.due("passes make no new position", () -> x.why(6), 3);
        x.play(24);
        x.pass();
        Checks.due("behind another stone the position is a new one", () -> {
            x.pass();
            return x.why(6);
        }, 0);
        CornerStones y = new CornerStones();
        y.set(1);
        y.play(0);
        y.board(5);
        Checks.due("positions of the board before do not count", () -> y.why(0), 0);
        Checks.due("on a new board", () -> y.play(0), 0);
    }

    private static void whyWithSet() {
        CornerStones x = Boards.ko(0);
        x.pass();
        x.pass();
        Checks.due("with 0 it may come", () -> x.why(6), 0);
        x.set(1);
        Checks.due("with 1 the positions before count too", () -> x.why(6), 3);
        Checks.due("choices with 1", () -> x.choices(), 16);
        x.set(0);
        Checks.due("and with 0 they do not", () -> x.why(6), 0);
        Checks.due("choices with 0", () -> x.choices(), 17);
    }

    /** Two stones are sent, one comes back: the position is that ahead of the latest three moves, not of the latest. */
    private static void whyTwoMovesBefore() {
        CornerStones x = Boards.drawn(0, ".X.X.", "OOX..", ".....", ".....", ".....");
        x.play(0);
        Checks.due("two are taken", () -> x.play(2), 2);
        Checks.due("a position before that ahead of the latest move", () -> x.why(1), 0);
        x.set(1);
        Checks.due("any position", () -> x.why(1), 3);
        Checks.thrown("it is not laid", () -> x.play(1), Checks.STATE);
        x.set(0);
        Checks.due("one is taken back", () -> x.play(1), 1);
        Boards.same(x, ".X.X.", "OOX..", ".....", ".....", ".....");
    }

    private static void mostMoves() {
        CornerStones x = Boards.drawn(0, ".O..", "OO..", "..XX", ".XX.");
        while (x.about(1) < 119) {
            x.pass();
        }
        x.set(0);
        Checks.due("one move is left", () -> x.why(2), 0);
        Checks.due("choices with one left", () -> x.choices() > 0 ? 1 : 0, 1);
        Checks.due("the last move", () -> x.pass() > 100 ? 1 : 0, 1);
        Checks.due("120 moves", () -> x.about(1), 120);
        Checks.due("no moves left", () -> x.why(2), 4);
        Checks.due("not empty comes first", () -> x.why(1), 1);
        Checks.due("no liberty comes first", () -> x.why(0), 2);
        Checks.thrown("play", () -> x.play(2), Checks.STATE);
        Checks.thrown("play no point", () -> x.play(16), Checks.INDEX);
        Checks.thrown("pass", () -> x.pass(), Checks.STATE);
        Checks.due("ifPlayed", () -> x.ifPlayed(2, 0), -1);
        Checks.due("choices", () -> x.choices(), 0);
        Checks.due("bestTake", () -> x.bestTake(), -1);
        Checks.due("a script's stone fails", () -> x.runScript(1, 1020), 0);
        Checks.due("a script's pass fails", () -> x.runScript(1, 2000), 0);
        Checks.due("a script asks for the 4", () -> x.runScript(1, 5024), -1);
        Checks.due("set is no move", () -> x.set(1), 0);
        x.undo();
        x.undo();
        Checks.due("undo takes the last move back", () -> x.about(1), 119);
        Checks.due("then there is one left", () -> x.why(2), 0);
        Checks.due("a script's first pass is done, not its second", () -> x.runScript(2, 20002000), 1);
        x.pass();
        CornerStones y = Boards.ko(1);
        while (y.about(1) < 120) {
            y.pass();
        }
        if (y.about(2) == 1) {
            Checks.due("the position comes first", () -> y.why(6), 3);
        }
        Checks.due("a ladder does not count moves", () -> y.ladder(6 + 2, 0) >= 0 ? 1 : 0, 1);
        y.board(3);
        Checks.due("another board has moves again", () -> y.choices(), 9);
        mostMovesInALadder();
    }

    private static void mostMovesInALadder() {
        CornerStones x = Boards.drawn(0, "OX.", "...", "...");
        while (x.about(1) < 120) {
            x.pass();
        }
        Checks.due("ladder with 120 moves", () -> x.ladder(0, 0), 1);
        Checks.due("chase with 120 moves", () -> x.chase(0), 3);
        Checks.due("simulate with 120 moves", () -> x.simulate(1, 100), 201);
    }

    private static void board() {
        CornerStones x = Boards.drawn(1, "OX.", "...", "...");
        x.pass();
        x.play(3);
        x.pass();
        x.set(1);
        for (int rows = 3; rows <= 7; rows++) {
            int r = rows;
            Checks.due("board " + r, () -> x.board(r), r * r);
            Checks.due("its choices", () -> x.choices(), r * r);
        }
        Checks.due("setting 0 stays", () -> x.about(7), 1);
        Checks.due("no moves", () -> x.about(1), 0);
        Checks.due("no passes", () -> x.about(3), 0);
        Checks.due("no two passes", () -> x.about(4), 0);
        Checks.due("no captives", () -> x.colour(0, 1), 0);
        Checks.due("the colour 0 has the turn", () -> x.about(2), 0);
        Checks.thrown("board 2", () -> x.board(2), Checks.ARGUMENT);
        Checks.thrown("board 8", () -> x.board(8), Checks.ARGUMENT);
        Checks.thrown("board -5", () -> x.board(-5), Checks.ARGUMENT);
        for (int i = 0; i < 5; i++) {
            x.undo();
        }
        Boards.same(x, ".X.", "X..", "...");
        Checks.due("undo brings the captives back", () -> x.colour(0, 1), 1);
        CornerStones y = Boards.drawn(0, "OX.", "...", "...");
        y.board(3);
        Checks.thrown("points of the board before", () -> y.why(9), Checks.INDEX);
        y.pass();
        y.pass();
        y.board(3);
        Checks.due("passes of the board before", () -> y.about(4) + y.about(3), 0);
        CornerStones z = Boards.drawn(1, "XO.", "...", "...");
        z.play(3);
        Checks.due("captives of 1", () -> z.colour(1, 1), 1);
        z.board(3);
        Checks.due("captives of 1 on another board", () -> z.colour(1, 1), 0);
    }

    private static void play() {
        CornerStones x = Boards.drawn(0, "XO.X", "XOO.", ".XX.", "....");
        Checks.due("nothing is taken", () -> x.play(2), 0);
        CornerStones y = Boards.drawn(0, ".OX.", "XOOX", ".XX.", "....");
        Checks.due("three are taken", () -> y.play(0), 3);
        Boards.same(y, "X.X.", "X..X", ".XX.", "....");
        Checks.due("captives", () -> y.colour(0, 1), 3);
        Checks.due("the other one has the turn", () -> y.about(2), 1);
        CornerStones two = Boards.drawn(1, "XX.X", "OOO.", "....", "...O");
        two.play(7);
        two.pass();
        Checks.due("two groups are taken at once", () -> two.play(2), 3);
        Checks.due("captives of 1", () -> two.colour(1, 1), 3);
        Checks.thrown("a point that is not empty", () -> two.play(4), Checks.STATE);
        Checks.thrown("play -1", () -> two.play(-1), Checks.INDEX);
        Checks.thrown("play 16", () -> two.play(16), Checks.INDEX);
        int moves = two.about(1);
        Checks.due("what throws is no move", () -> two.about(1), moves);
        CornerStones own = Boards.drawn(1, ".X..", "X...", "....", "...O");
        Checks.thrown("a stone without liberties", () -> own.play(0), Checks.STATE);
        Checks.due("the turn stays", () -> own.about(2), 1);
    }

    private static void passes() {
        CornerStones x = new CornerStones();
        Checks.due("the first pass", () -> x.pass(), 1);
        Checks.due("the turn", () -> x.about(2), 1);
        x.play(0);
        Checks.due("the second pass", () -> x.pass(), 2);
        Checks.due("the moves", () -> x.about(1), 3);
        for (int i = 3; i < 120; i++) {
            x.pass();
        }
        Checks.due("120 moves", () -> x.about(1), 120);
        Checks.thrown("one pass more", () -> x.pass(), Checks.STATE);
        x.undo();
        Checks.due("the last pass again", () -> x.pass(), 119);
    }

    private static void set() {
        CornerStones x = new CornerStones();
        Checks.due("set 1", () -> x.set(1), 0);
        Checks.due("set 1 again", () -> x.set(1), 1);
        Checks.thrown("set 2", () -> x.set(2), Checks.ARGUMENT);
        Checks.thrown("set -1", () -> x.set(-1), Checks.ARGUMENT);
        Checks.due("set 0", () -> x.set(0), 1);
        Checks.due("undo of three", () -> x.undo(), 2);
        Checks.due("setting 0 then", () -> x.about(7), 1);
        Checks.due("an action that changed nothing", () -> x.undo(), 1);
        Checks.due("setting 0 then", () -> x.about(7), 1);
        Checks.due("the first one", () -> x.undo(), 0);
        Checks.due("setting 0 at first", () -> x.about(7), 0);
        Checks.thrown("one more", () -> x.undo(), Checks.STATE);
    }

    private static void undo() {
        CornerStones x = new CornerStones();
        for (int k = 0; k < 15; k++) {
            x.play(k);
        }
        for (int left = 13; left >= 0; left--) {
            int n = left;
            Checks.due("undo, states left", () -> x.undo(), n);
            Checks.due("the moves then", () -> x.about(1), n + 1);
        }
        Checks.thrown("the fifteenth is forgotten", () -> x.undo(), Checks.STATE);
        Checks.due("what stays", () -> x.stones(0), 1);
        x.play(1);
        x.pass();
        x.pass();
        Checks.due("two passes", () -> x.about(4), 1);
        Checks.due("undo of a pass", () -> x.undo(), 2);
        Checks.due("one pass is left", () -> x.about(4), 0);
        Checks.due("undo of the other one", () -> x.undo(), 1);
        Checks.due("the passes then", () -> x.about(3), 0);
        Checks.thrown("a call that throws", () -> x.play(1), Checks.STATE);
        Checks.due("is no action", () -> x.undo(), 0);
        CornerStones y = Boards.drawn(0, "OX.", "...", "...");
        y.play(3);
        y.undo();
        Boards.same(y, "OX.", "...", "...");
        Checks.due("captives too", () -> y.colour(0, 1), 0);
        Checks.due("and the turn", () -> y.about(2), 0);
    }

    private static void ifPlayed() {
        CornerStones x = Boards.drawn(0, ".OX..", "XOOX.", ".XX.O", "....X", ".....");
        Checks.due("what it would take", () -> x.ifPlayed(0, 0), 3);
        Checks.due("the liberties of its group", () -> x.ifPlayed(0, 1), 3);
        Checks.due("the stones of its group", () -> x.ifPlayed(0, 2), 2);
        Checks.due("others with just one liberty", () -> x.ifPlayed(0, 3), 0);
        Checks.due("others with just one liberty if it is elsewhere", () -> x.ifPlayed(24, 3), 1);
        Checks.due("and with one more", () -> x.ifPlayed(9, 3), 2);
        Checks.due("the stones joined", () -> x.ifPlayed(13, 2), 4);
        Checks.due("nothing taken", () -> x.ifPlayed(13, 0), 0);
        Checks.due("not empty", () -> x.ifPlayed(1, 0), -1);
        Checks.thrown("ifPlayed -1", () -> x.ifPlayed(-1, 0), Checks.INDEX);
        Checks.thrown("ifPlayed 25", () -> x.ifPlayed(25, 4), Checks.INDEX);
        Checks.thrown("ifPlayed 1, 4", () -> x.ifPlayed(1, 4), Checks.ARGUMENT);
        Checks.thrown("ifPlayed 0, -1", () -> x.ifPlayed(0, -1), Checks.ARGUMENT);
        Boards.same(x, ".OX..", "XOOX.", ".XX.O", "....X", ".....");
        Checks.due("it is no move", () -> x.about(2), 0);
    }

    private static void bestTakeAndChoices() {
        CornerStones none = new CornerStones();
        Checks.due("nothing to take", () -> none.bestTake(), -1);
        CornerStones x = Boards.drawn(0, "OX...", ".....", ".X...", "XOX.X", ".O.OO");
        Checks.due("one at 5, two at none", () -> x.bestTake(), 5);
        CornerStones more = Boards.drawn(0, "OX...", ".....", ".X..X", "XOXXO", ".OX.O");
        Checks.due("two at 20 and at 23, one at 5", () -> more.bestTake(), 20);
        CornerStones only = Boards.drawn(0, "OX...", ".....", "....X", "XO.XO", ".X..O");
        Checks.due("the most, not the lowest", () -> only.bestTake(), 23);
        CornerStones own = Boards.drawn(1, "OX...", ".....", ".....", ".....", ".....");
        Checks.due("not what the other one may take", () -> own.bestTake(), -1);
        CornerStones again = Boards.ko(0);
        Checks.due("nor what must not come again", () -> again.bestTake(), -1);
        again.pass();
        again.pass();
        Checks.due("but later", () -> again.bestTake(), 6);
        CornerStones y = Boards.drawn(0, ".O.", "OO.", "..X");
        Checks.due("choices of 0", () -> y.choices(), 4);
        y.pass();
        Checks.due("choices of 1", () -> y.choices(), 5);
    }

    private static void ladderToTheEdge() {
        CornerStones x = Boards.drawn(0, ".......", "..X....", ".XO....", "..X....", ".......", ".......", ".......");
        // the group at 16 has one liberty, at 17
        Checks.due("one liberty, the chaser's turn", () -> x.ladder(16, 0), 1);
        Checks.due("the owner comes out with three", () -> x.ladder(16, 1), 0);
        Checks.due("an empty point", () -> x.ladder(17, 0), -1);
        Checks.due("an empty point, the owner", () -> x.ladder(17, 1), -1);
        Checks.thrown("ladder -1", () -> x.ladder(-1, 0), Checks.INDEX);
        Checks.thrown("ladder 49", () -> x.ladder(49, 0), Checks.INDEX);
        Checks.thrown("ladder 49, 2", () -> x.ladder(49, 2), Checks.INDEX);
        Checks.thrown("ladder 17, 2", () -> x.ladder(17, 2), Checks.ARGUMENT);
        Checks.thrown("ladder 16, -1", () -> x.ladder(16, -1), Checks.ARGUMENT);
        CornerStones y = Boards.drawn(1, ".......", "..XX...", ".XO....", ".......", ".......", ".......", ".......");
        Checks.due("two liberties, a ladder that works", () -> y.ladder(16, 0), 1);
        Checks.due("the turn of the game does not matter", () -> y.about(2), 1);
        Checks.due("two liberties, the owner's turn", () -> y.ladder(16, 1), 0);
        CornerStones stuck = Boards.drawn(0, "OX...", ".X...", "X....", ".....", ".....");
        Checks.due("the owner cannot get out", () -> stuck.ladder(0, 1), 1);
        CornerStones suicide = Boards.drawn(0, ".OX..", "OX...", ".....", ".....", ".....");
        Checks.due("the chaser takes as always", () -> suicide.ladder(1, 0), 1);
    }

    private static void ladderThatFails() {
        CornerStones breaker = Boards.drawn(0, ".......", "..XX...", ".XO....", ".......", ".......", ".....O.", ".......");
        CornerStones plain = Boards.drawn(0, ".......", "..XX...", ".XO....", ".......", ".......", ".......", ".......");
        Checks.due("without a stone in the way", () -> plain.ladder(16, 0), 1);
        CornerStones near = Boards.drawn(0, ".......", "..XX...", ".XO....", "....O..", ".......", ".......", ".......");
        Checks.due("with one in the way", () -> near.ladder(16, 0), 0);
        Checks.due("with one farther away", () -> breaker.ladder(16, 0), 0);
        Checks.due("and nothing chases it", () -> breaker.chase(16), -1);
        CornerStones three = Boards.drawn(0, ".....", "..O..", ".X...", ".....", ".....");
        Checks.due("three liberties and more", () -> three.ladder(7, 0), 0);
        Checks.due("three for the owner", () -> three.ladder(7, 1), 0);
        CornerStones takes = Boards.drawn(0, ".....", "..O..", "OXX..", "XO...", "X....");
        Checks.due("a stone that the owner lays takes", () -> takes.ladder(takes.about(0) * 3 + 1, 1), 0);
    }

    /** Long ladders, found by a search: the number of stones that the chaser needs at least is known. */
    private static void ladderOfAtMostTwelve() {
        CornerStones twelve = Boards.drawn(0, "O..O...", ".......", ".......", ".......", ".O.....", ".......", ".......");
        Checks.due("twelve stones", () -> twelve.ladder(0, 0), 1);
        Checks.due("chase with twelve", () -> twelve.chase(0), 1);
        Checks.due("a script with twelve", () -> twelve.runScript(1, 7001), -1);
        CornerStones thirteen = Boards.drawn(0, "X.O.O..", ".......", ".......", ".......", "O.....O", "O......", ".O....O");
        Checks.due("thirteen stones", () -> thirteen.ladder(48, 0), 0);
        Checks.due("chase with thirteen", () -> thirteen.chase(48), -1);
        Checks.due("a script with thirteen", () -> thirteen.runScript(1, 7480), -1);
        thirteen.play(41);
        Checks.due("behind the first of them, the owner's turn", () -> thirteen.ladder(48, 1), 1);
        CornerStones fourteen = Boards.drawn(0, "OX.....", "O......", ".....O.", ".......", ".......", "....O..", ".OO....");
        Checks.due("fourteen stones", () -> fourteen.ladder(0, 0), 0);
        fourteen.play(14);
        Checks.due("thirteen for the owner", () -> fourteen.ladder(0, 1), 0);
    }

    private static void chase() {
        CornerStones x = Boards.drawn(0, "OX...", ".....", ".....", ".....", ".....");
        Checks.due("one liberty", () -> x.chase(0), 5);
        Checks.due("an empty point", () -> x.chase(24), -1);
        x.play(12);
        Checks.due("more than two", () -> x.chase(12), -1);
        Checks.thrown("chase -1", () -> x.chase(-1), Checks.INDEX);
        Checks.thrown("chase 25", () -> x.chase(25), Checks.INDEX);
        CornerStones y = Boards.drawn(0, ".......", "..XX...", ".XO....", ".......", ".......", ".......", ".......");
        Checks.due("of 17 and 23 only the higher one works", () -> y.chase(16), 23);
        CornerStones edge = Boards.drawn(0, ".O...", "XX...", ".....", ".....", ".....");
        Checks.due("along the edge, the lowest", () -> edge.chase(1), 0);
        CornerStones both = Boards.drawn(0, ".O.X.", "XXX..", ".....", ".....", ".....");
        Checks.due("the lowest of two that work", () -> both.chase(1), 0);
        Checks.due("it is no action", () -> both.about(1) > 0 ? 1 : 0, 1);
    }

    private static void lead() {
        CornerStones x = new CornerStones();
        Checks.due("no stones", () -> x.lead(), 0);
        x.play(12);
        Checks.due("the whole board", () -> x.lead(), 25);
        x.play(0);
        Checks.due("one each", () -> x.lead(), 0);
        CornerStones y = Boards.drawn(0, ".O.", "OO.", "..X");
        Checks.due("less", () -> y.lead(), -3);
    }

    private static void scriptCommands() {
        CornerStones x = Boards.drawn(0, ".XO..", "XO.O.", ".XO..", ".....", ".....");
        commandIs(x, 1070, true);
        commandIs(x, 1071, false);
        commandIs(x, 1010, false);
        commandIs(x, 1250, false);
        commandIs(x, 1990, false);
        commandIs(x, 2000, true);
        commandIs(x, 2001, false);
        commandIs(x, 2010, false);
        commandIs(x, 2100, false);
        commandIs(x, 3010, true);
        commandIs(x, 3011, false);
        commandIs(x, 3021, true);
        commandIs(x, 3000, false);
        commandIs(x, 3001, false);
        commandIs(x, 3009, false);
        commandIs(x, 3012, false);
        commandIs(x, 3250, false);
        commandIs(x, 4061, true);
        commandIs(x, 4062, false);
        commandIs(x, 4060, true);
        commandIs(x, 4000, false);
        commandIs(x, 4250, false);
        commandIs(x, 5011, true);
        commandIs(x, 5070, true);
        commandIs(x, 5071, false);
        commandIs(x, 5251, false);
        commandIs(x, 6000, true);
        commandIs(x, 6001, false);
        commandIs(x, 6200, false);
        commandIs(x, 7061, true);
        commandIs(x, 7060, false);
        commandIs(x, 7062, false);
        commandIs(x, 7000, false);
        commandIs(x, 7250, false);
        commandIs(x, 8004, true);
        commandIs(x, 8005, false);
        commandIs(x, 8105, true);
        commandIs(x, 8106, false);
        commandIs(x, 8200, false);
        commandIs(x, 9001, true);
        commandIs(x, 9000, false);
        commandIs(x, 9100, true);
        commandIs(x, 9250, false);
        commandIs(x, 70, false);
        commandIs(x, 0, false);
        Checks.due("a script goes on from the state before", () -> x.runScript(4, 1070600130705063L), -1);
        Checks.due("it stops where it fails", () -> x.runScript(4, 1070600230705063L), 1);
        Checks.due("the last one fails", () -> x.runScript(4, 1070600130705062L), 3);
        Boards.same(x, ".XO..", "XO.O.", ".XO..", ".....", ".....");
        Checks.due("it changes nothing", () -> x.about(2) + x.colour(0, 1), 0);
    }

    private static void commandIs(CornerStones x, int command, boolean succeeds) {
        Checks.due("the command " + command, () -> x.runScript(1, command), succeeds ? -1 : 0);
    }

    private static void scriptArguments() {
        CornerStones x = new CornerStones();
        Checks.thrown("no commands", () -> x.runScript(0, 0), Checks.ARGUMENT);
        Checks.thrown("five commands", () -> x.runScript(5, 2000), Checks.ARGUMENT);
        Checks.thrown("a negative script", () -> x.runScript(1, -1), Checks.ARGUMENT);
        Checks.thrown("the most negative script", () -> x.runScript(4, Long.MIN_VALUE), Checks.ARGUMENT);
        Checks.thrown("the largest script", () -> x.runScript(4, Long.MAX_VALUE), Checks.ARGUMENT);
        Checks.thrown("five digits for one", () -> x.runScript(1, 10000), Checks.ARGUMENT);
        Checks.due("four digits for one", () -> x.runScript(1, 9999), 0);
        Checks.thrown("nine digits for two", () -> x.runScript(2, 100000000L), Checks.ARGUMENT);
        Checks.due("eight digits for two", () -> x.runScript(2, 20009999L), 1);
        Checks.thrown("13 digits for three", () -> x.runScript(3, 1000000000000L), Checks.ARGUMENT);
        Checks.due("twelve digits for three", () -> x.runScript(3, 200020009999L), 2);
        Checks.thrown("17 digits for four", () -> x.runScript(4, 10000000000000000L), Checks.ARGUMENT);
        Checks.due("16 digits for four", () -> x.runScript(4, 2000200020009999L), 3);
        Checks.due("zeros before it fail first", () -> x.runScript(2, 2000), 0);
        x.pass();
        x.runScript(1, 2000);
        Checks.due("it is no action", () -> x.undo(), 0);
    }

    private static void simulate() {
        CornerStones x = new CornerStones();
        Checks.thrown("no turns", () -> x.simulate(0, 0), Checks.ARGUMENT);
        Checks.thrown("101 turns", () -> x.simulate(0, 101), Checks.ARGUMENT);
        Checks.thrown("turns below none", () -> x.simulate(0, -1), Checks.ARGUMENT);
        // the first x of the seed 0 is 1442695040888963407, r 167951807, q 10496987 modulo 25
        Checks.due("one stone", () -> x.simulate(0, 1), 101);
        // the first x of this seed is 0, so r is 0 as well
        Checks.due("a pass", () -> x.simulate(seedBefore(0), 1), 0);
        Reference due = new Reference();
        long[] seeds = {0, 1, -1, 7, Long.MIN_VALUE, Long.MAX_VALUE, 123456789123L};
        for (int rows = 3; rows <= 7; rows++) {
            x.board(rows);
            due.board(rows);
            for (long seed : seeds) {
                for (int m : new int[] {1, 2, 30, 99, 100}) {
                    Checks.due("simulate", () -> x.simulate(seed, m), due.simulate(seed, m));
                }
            }
            Checks.due("it changes nothing", () -> x.choices(), rows * rows);
        }
    }

    /** The seed that the first turn replaces by x. */
    private static long seedBefore(long x) {
        long factor = 6364136223846793005L;
        long inverse = factor;
        for (int i = 0; i < 6; i++) {
            inverse *= 2 - factor * inverse;
        }
        return (x - 1442695040888963407L) * inverse;
    }

    private static void saveAndRestore() {
        CornerStones x = Boards.ko(1);
        int moves = x.about(1);
        Checks.due("save", () -> x.save(0), moves);
        Checks.thrown("the other slot is empty", () -> x.restore(1), Checks.STATE);
        x.board(3);
        x.set(0);
        x.play(0);
        Checks.due("save in the other slot", () -> x.save(1), 1);
        Checks.due("restore", () -> x.restore(0), moves);
        Boards.same(x, ".XO..", "X.XO.", ".XO..", ".....", ".....");
        Checks.due("setting 0 comes back", () -> x.about(7), 1);
        Checks.due("captives come back", () -> x.colour(0, 1), 1);
        Checks.due("the positions come back", () -> x.why(6), 3);
        Checks.thrown("the remembered states are forgotten", () -> x.undo(), Checks.STATE);
        x.pass();
        Checks.due("the slot keeps it", () -> x.restore(0), moves);
        Checks.due("so does the other one", () -> x.restore(1), 1);
        Boards.same(x, "X..", "...", "...");
        Checks.thrown("save -1", () -> x.save(-1), Checks.INDEX);
        Checks.thrown("save 2", () -> x.save(2), Checks.INDEX);
        Checks.thrown("restore -1", () -> x.restore(-1), Checks.INDEX);
        Checks.thrown("restore 2", () -> x.restore(2), Checks.INDEX);
        x.play(1);
        x.save(0);
        Checks.due("save is no action", () -> x.undo(), 0);
        Checks.due("save overwrites", () -> x.restore(0), 2);
        Checks.thrown("a restore that throws", () -> x.restore(5), Checks.INDEX);
        Checks.due("changes nothing", () -> x.about(1), 2);
    }
}
