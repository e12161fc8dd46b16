/** The text (promises 2 to 5): its length, its characters, the error position, what load leaves out and forgets. */
final class TextBoundaries {
    private static final String ALL_BUT_0 = "01p03p02p04p05p06p07p08";

    private TextBoundaries() {
    }

    static void run() {
        Checks.holds("Promise 2, append", "c: character code, 0 to 255", TextBoundaries::characterCodes);
        Checks.holds("Promise 2, append", "Returns the new length of the text.", TextBoundaries::newLength);
        Checks.holds("Promise 2, append", "The object has a text buffer of at most 120 characters.", TextBoundaries::fullText);
        Checks.holds("Promise 3, clearText", "Returns the previous length of the text.", TextBoundaries::previousLength);
        errorPositions();
        loading();
    }

    private static void errorPositions() {
        Checks.holds("Promise 4, errorPosition", "Returns the error position of the text; NONE if it is a game.",
                TextBoundaries::games);
        Checks.holds("Promise 4, errorPosition", "A game as a text is the letter B,", () -> onlyAt("", "", "B"));
        Checks.holds("Promise 4, errorPosition", "a digit for rows (3 to 7),", () -> onlyAt("B", "34567", ""));
        Checks.holds("Promise 4, errorPosition", "perhaps s (setting 0 becomes 1),", TextBoundaries::perhapsS);
        Checks.holds("Promise 4, errorPosition", "and then any number of moves:", TextBoundaries::anyNumberOfMoves);
        Checks.holds("Promise 4, errorPosition", "two digits for a point (00 to 48): play();", TextBoundaries::twoDigits);
        Checks.holds("Promise 4, errorPosition", "or p: pass().", TextBoundaries::orPass);
        Checks.holds("Promise 4, errorPosition", "There are no blanks.", TextBoundaries::blanks);
        Checks.holds("Promise 4, errorPosition", "The text is read from left to right.", TextBoundaries::firstOfSeveral);
        Checks.holds("Promise 4, errorPosition", "The error position is the index of the first character that these rules do"
                + " not allow at its place", TextBoundaries::eachPlace);
        Checks.holds("Promise 4, errorPosition", "(a digit is not allowed if no number that is allowed begins with it and those"
                + " before it);", TextBoundaries::digits);
        Checks.holds("Promise 4, errorPosition", "if the text ends too soon, it is the length of the text.",
                TextBoundaries::endsTooSoon);
    }

    private static void loading() {
        Checks.holds("Promise 5, load", "Makes everything as in a new object, but with the rows that are told,",
                TextBoundaries::asNew);
        Checks.holds("Promise 5, load", "a digit for rows (3 to 7),", TextBoundaries::rowsThatAreTold);
        Checks.holds("Promise 5, load", "perhaps s (setting 0 becomes 1),", TextBoundaries::settingThatIsTold);
        Checks.holds("Promise 5, load", "and then does the moves of the text.", TextBoundaries::doneMoves);
        Checks.holds("Promise 5, load", "Moves that would throw an exception are left out.", TextBoundaries::leftOut);
        Checks.holds("Promise 5, load", "Returns the number of moves that are left out.", TextBoundaries::countedLeftOut);
        Checks.holds("Promise 5, load", "Behind it no state is remembered,", TextBoundaries::forgetsStates);
        Checks.holds("Promise 5, load", "and both save slots are empty.", TextBoundaries::emptiesSlots);
        Checks.holds("Promise 5, load", "Keeps the text.", TextBoundaries::keepsText);
        Checks.holds("Promise 5, load", "Throws IllegalStateException if the text is not a game", TextBoundaries::noGame);
    }

    private static int errorOf(String text) {
        CornerStones x = new CornerStones();
        Boards.write(x, text);
        return x.errorPosition();
    }

    private static void erring(String text, int want) {
        Checks.due("errorPosition of " + text, () -> errorOf(text), want);
    }

    /** Each character errs behind the beginning, but those that end a game there, and those that must go on. */
    private static void onlyAt(String beginning, String ending, String goingOn) {
        for (int i = 0; i < 256; i++) {
            String text = beginning + (char) i;
            boolean goesOn = goingOn.indexOf(i) >= 0;
            erring(text, ending.indexOf(i) >= 0 ? -1 : goesOn ? text.length() : beginning.length());
        }
    }

    private static void characterCodes() {
        CornerStones x = new CornerStones();
        for (int c : new int[] {Integer.MIN_VALUE, -256, -2, -1}) {
            Checks.thrown("below them, " + c, () -> x.append(c), Checks.ARGUMENT);
        }
        Checks.due("the first", () -> x.append(0), 1);
        Checks.due("the second", () -> x.append(1), 2);
        Checks.due("the last but one", () -> x.append(254), 3);
        Checks.due("the last", () -> x.append(255), 4);
        for (int c : new int[] {256, 257, 256 + 'B', 65536 + 'B', Integer.MAX_VALUE}) {
            Checks.thrown("above them, " + c, () -> x.append(c), Checks.ARGUMENT);
        }
        Checks.due("the length", () -> x.clearText(), 4);
        Boards.write(x, "B5");
        Checks.thrown("not as the character of its last eight bits", () -> x.append(256 + 'p'), Checks.ARGUMENT);
        x.append(255);
        Checks.due("nor is 255 as -1, the end", () -> x.errorPosition(), 2);
    }

    private static void newLength() {
        CornerStones x = new CornerStones();
        for (int i = 1; i <= 120; i++) {
            int length = i;
            Checks.due("append", () -> x.append(length % 256), length);
        }
        x.clearText();
        Checks.due("behind clearText", () -> x.append('B'), 1);
    }

    private static void fullText() {
        CornerStones x = new CornerStones();
        Boards.write(x, "B5" + "p".repeat(117));
        Checks.due("one short of full", () -> x.errorPosition(), -1);
        Checks.due("the last character", () -> x.append('p'), 120);
        Checks.thrown("one more", () -> x.append('p'), Checks.STATE);
        Checks.thrown("and again", () -> x.append(0), Checks.STATE);
        Checks.due("the full text is a game", () -> x.load(), 0);
        Checks.due("with all its moves", () -> x.about(1), 118);
        Checks.thrown("load does not empty it", () -> x.append('p'), Checks.STATE);
        Checks.due("all of it", () -> x.clearText(), 120);
        Checks.due("there is room again", () -> x.append('p'), 1);
    }

    private static void previousLength() {
        CornerStones x = new CornerStones();
        Checks.due("an empty text", () -> x.clearText(), 0);
        x.append('B');
        Checks.due("one character", () -> x.clearText(), 1);
        Checks.due("it is empty then", () -> x.clearText(), 0);
        Boards.write(x, "p".repeat(119));
        Checks.due("one short of full", () -> x.clearText(), 119);
        Boards.write(x, "p".repeat(120));
        Checks.due("a full text", () -> x.clearText(), 120);
        Boards.write(x, "B3");
        Checks.due("nothing of the longer text is left", () -> x.errorPosition(), -1);
        Checks.due("nor moves", () -> x.load() + x.about(1), 0);
    }

    private static void games() {
        for (int rows = 3; rows <= 7; rows++) {
            erring("B" + rows, -1);
            erring("B" + rows + "s", -1);
            erring("B" + rows + "s00p48", -1);
        }
        erring("B3pp", -1);
        erring("B300480048", -1);
        erring("", 0);
        erring("x", 0);
    }

    private static void perhapsS() {
        erring("B5", -1);
        erring("B5s", -1);
        erring("B5ss", 3);
        erring("B5ps", 3);
        erring("B500s", 4);
        erring("B50s", 3);
        erring("Bs", 1);
        erring("B5S", 2);
        erring("s", 0);
    }

    private static void anyNumberOfMoves() {
        erring("B7", -1);
        erring("B7s", -1);
        erring("B7p", -1);
        erring("B7" + "p".repeat(118), -1);
        erring("B7s" + "p".repeat(117), -1);
        erring("B7" + "48".repeat(59), -1);
        erring("B7s" + "48".repeat(58) + "p", -1);
        erring("B7" + "p48".repeat(39) + "p", -1);
    }

    private static void twoDigits() {
        for (int k = 0; k < 100; k++) {
            String point = "" + k / 10 + k % 10;
            int want = k <= 48 ? -1 : k == 49 ? 3 : 2;
            erring("B3" + point, want);
            erring("B7s" + point, want < 0 ? want : want + 1);
            erring("B7p" + point + "p", want < 0 ? want : want + 1);
        }
        erring("B3000", 5);
        erring("B7480", 5);
        erring("B748" + "48" + "49", 7);
    }

    private static void orPass() {
        erring("B5p", -1);
        erring("B5sp", -1);
        erring("B500p", -1);
        erring("B5pp", -1);
        erring("B5P", 2);
        erring("B5o", 2);
        erring("B5q", 2);
        erring("B50p", 3);
        Checks.due("it is pass()", () -> Boards.loaded("B5p").about(3), 1);
    }

    private static void blanks() {
        erring(" B5", 0);
        erring("B 5", 1);
        erring("B5 ", 2);
        erring("B5 s", 2);
        erring("B5s p", 3);
        erring("B5p p", 3);
        erring("B50 0", 3);
        erring("B500 ", 4);
        erring("B5\n", 2);
        erring("B5\t", 2);
        erring("B5" + (char) 0, 2);
        erring("B5" + (char) 160, 2);
    }

    private static void firstOfSeveral() {
        erring("xx", 0);
        erring("B99", 1);
        erring("B5xx", 2);
        erring("B5x00y", 2);
        erring("B500x49", 4);
        erring("B54949", 3);
        erring("B5" + "p".repeat(116) + "x" + "x", 118);
        erring("B5" + "p".repeat(117) + "x", 119);
    }

    private static void eachPlace() {
        onlyAt("", "", "B");
        onlyAt("B", "34567", "");
        onlyAt("B3", "sp", "01234");
        onlyAt("B7", "sp", "01234");
        onlyAt("B7s", "p", "01234");
        onlyAt("B7p", "p", "01234");
        onlyAt("B700", "p", "01234");
        onlyAt("B70", "0123456789", "");
        onlyAt("B73", "0123456789", "");
        onlyAt("B74", "012345678", "");
        onlyAt("B7s4", "012345678", "");
        onlyAt("B7" + "p".repeat(117), "p", "01234");
        onlyAt("B7" + "p".repeat(116) + "3", "0123456789", "");
    }

    private static void digits() {
        erring("B2", 1);
        erring("B3", -1);
        erring("B7", -1);
        erring("B8", 1);
        erring("B0", 1);
        erring("B9", 1);
        erring("B54", 3);
        erring("B548", -1);
        erring("B549", 3);
        erring("B55", 2);
        erring("B550", 2);
        erring("B59", 2);
        erring("B539", -1);
        erring("B500", -1);
        erring("B33", 3);
    }

    private static void endsTooSoon() {
        erring("", 0);
        erring("B", 1);
        erring("B50", 3);
        erring("B54", 3);
        erring("B5s4", 4);
        erring("B5p0", 4);
        erring("B5000", 5);
        erring("B5" + "p".repeat(116) + "0", 119);
        erring("B5" + "p".repeat(117) + "4", 120);
        erring("B5s" + "00".repeat(58) + "4", 120);
        endsAheadOfTheTextBefore("B548", "B54");
        endsAheadOfTheTextBefore("B500", "B50");
        endsAheadOfTheTextBefore("B5", "B");
        endsAheadOfTheTextBefore("B5", "");
        endsAheadOfTheTextBefore("B5" + "48".repeat(59), "B5" + "48".repeat(58) + "4");
    }

    /** Nothing of a longer text that was emptied counts, not even where it would go on. */
    private static void endsAheadOfTheTextBefore(String before, String text) {
        CornerStones x = new CornerStones();
        Boards.write(x, before);
        Boards.write(x, text);
        Checks.due("errorPosition of " + text + " behind " + before, () -> x.errorPosition(), text.length());
    }

    private static void asNew() {
        CornerStones x = Boards.drawn(0, "OX.", "...", "...");
        x.set(1);
        x.play(3);
        x.pass();
        x.pass();
        Boards.write(x, "B5");
        x.load();
        CornerStones fresh = new CornerStones();
        for (int i = 0; i < 8; i++) {
            int what = i;
            Checks.due("about " + what, () -> x.about(what), fresh.about(what));
        }
        for (int i = 0; i < 12; i++) {
            int what = i;
            Checks.due("colour " + what, () -> x.colour(what / 6, what % 6), fresh.colour(what / 6, what % 6));
        }
        Checks.due("choices", () -> x.choices(), 25);
        x.pass();
        Checks.due("passes are counted from 0", () -> x.about(3), 1);
        Checks.due("one pass is not two", () -> x.about(4), 0);
        Boards.write(x, "B5p");
        x.load();
        Checks.due("nor is it one with that before load", () -> x.about(4), 0);
        Boards.passTo(x, 120);
        x.load();
        Checks.due("moves are counted from 0", () -> x.about(1), 1);
        Checks.due("so there are moves again", () -> x.choices(), 25);
    }

    private static void rowsThatAreTold() {
        for (int rows = 3; rows <= 7; rows++) {
            int r = rows;
            Checks.due("rows", () -> Boards.loaded("B" + r).about(0), r);
            Checks.due("with s", () -> Boards.loaded("B" + r + "s").about(0), r);
            Checks.due("points", () -> Boards.loaded("B" + r + "p").choices(), r * r);
            Checks.thrown("a point behind them", () -> Boards.loaded("B" + r).why(r * r), Checks.INDEX);
        }
        CornerStones x = Boards.loaded("B7");
        x.board(3);
        x.load();
        Checks.due("again", () -> x.about(0), 7);
    }

    private static void settingThatIsTold() {
        Checks.due("with s", () -> Boards.loaded("B5s").about(7), 1);
        Checks.due("without s", () -> Boards.loaded("B5").about(7), 0);
        CornerStones x = new CornerStones();
        x.set(1);
        Boards.write(x, "B5p");
        x.load();
        Checks.due("without s it is 0 again", () -> x.about(7), 0);
        CornerStones shorter = new CornerStones();
        Boards.write(shorter, "B5sp");
        Boards.write(shorter, "B5");
        shorter.load();
        Checks.due("an s of the text before does not count", () -> shorter.about(7), 0);
        Checks.due("without s the stone is laid", () -> Boards.loaded("B300" + ALL_BUT_0 + "00").stones(0), 1);
        Checks.due("with s it is left out", () -> Boards.loaded("B3s00" + ALL_BUT_0 + "00").stones(0), 0);
    }

    private static void doneMoves() {
        CornerStones none = Boards.loaded("B3");
        Checks.due("none", () -> none.about(1), 0);
        Checks.due("118 passes", () -> Boards.loaded("B3" + "p".repeat(118)).about(3), 118);
        CornerStones few = Boards.loaded("B70048p06");
        Checks.due("stones of 0", () -> few.stones(0), 1);
        Checks.due("stones of 1", () -> few.stones(1), 1L << 48 | 1L << 6);
        Checks.due("moves", () -> few.about(1), 4);
        Checks.due("passes", () -> few.about(3), 1);
        Checks.due("the turn", () -> few.about(2), 0);
        Checks.due("captives", () -> Boards.loaded("B300" + ALL_BUT_0).colour(1, 1), 1);
    }

    private static void loadIs(String text, int leftOut, int moves) {
        CornerStones x = new CornerStones();
        Boards.write(x, text);
        Checks.due("load " + text, () -> x.load(), leftOut);
        Checks.due("moves of " + text, () -> x.about(1), moves);
    }

    private static void leftOut() {
        for (int rows = 3; rows <= 6; rows++) {
            int all = rows * rows;
            String last = "" + (all - 1) / 10 + (all - 1) % 10;
            String behind = "" + all / 10 + all % 10;
            loadIs("B" + rows + last, 0, 1);
            loadIs("B" + rows + behind, 1, 0);
        }
        loadIs("B748", 0, 1);
        loadIs("B648", 1, 0);
        // not empty
        loadIs("B30000", 1, 1);
        loadIs("B3000001", 1, 2);
        // without a liberty
        loadIs("B3p01p0300", 1, 4);
        loadIs("B3p01p04p00", 0, 6);
        // the position ahead of the latest move, with setting 0 as 0, and later
        String ko = "010205081112p0607";
        loadIs("B5" + ko, 0, 9);
        loadIs("B5" + ko + "06", 1, 9);
        loadIs("B5" + ko + "pp06", 0, 12);
        loadIs("B5s" + ko + "06", 1, 9);
        loadIs("B5s" + ko + "pp06", 1, 11);
        Checks.due("a move that is left out is no turn", () -> Boards.loaded("B3000001").stones(1), 2);
        Checks.due("nor are several", () -> Boards.loaded("B3000000094848p").about(1), 2);
    }

    private static void countedLeftOut() {
        loadIs("B3", 0, 0);
        loadIs("B309", 1, 0);
        loadIs("B309p09", 2, 1);
        loadIs("B3" + "48".repeat(59), 59, 0);
        loadIs("B3" + "00".repeat(59), 58, 1);
        loadIs("B3s" + "09".repeat(58) + "p", 58, 1);
        loadIs("B7" + "p".repeat(118), 0, 118);
        loadIs("B300" + ALL_BUT_0 + "00", 0, 17);
        loadIs("B3s00" + ALL_BUT_0 + "00", 1, 16);
    }

    private static void forgetsStates() {
        CornerStones x = new CornerStones();
        Boards.write(x, "B3ppp");
        x.load();
        Checks.thrown("its moves are not remembered", () -> x.undo(), Checks.STATE);
        for (int i = 0; i < 20; i++) {
            x.pass();
        }
        x.load();
        Checks.thrown("nor are the states before", () -> x.undo(), Checks.STATE);
        x.pass();
        Checks.due("the first one behind it", () -> x.undo(), 0);
        Checks.due("is what load made", () -> x.about(1), 3);
        for (int i = 0; i < 20; i++) {
            x.pass();
        }
        Checks.due("fourteen again", () -> x.undo(), 13);
    }

    private static void emptiesSlots() {
        for (int first = 0; first < 2; first++) {
            CornerStones x = new CornerStones();
            int slot = first;
            Boards.write(x, "B3");
            x.save(0);
            x.save(1);
            x.load();
            Checks.thrown("one of them", () -> x.restore(slot), Checks.STATE);
            Checks.thrown("the other one", () -> x.restore(1 - slot), Checks.STATE);
            x.save(slot);
            Checks.due("saved behind it", () -> x.restore(slot), 0);
            Checks.thrown("the other one is still empty", () -> x.restore(1 - slot), Checks.STATE);
            Boards.write(x, "B30000p48");
            x.save(1 - slot);
            Checks.due("with moves that are left out", () -> x.load(), 2);
            Checks.thrown("one of them then", () -> x.restore(slot), Checks.STATE);
            Checks.thrown("the other one then", () -> x.restore(1 - slot), Checks.STATE);
        }
    }

    private static void keepsText() {
        CornerStones x = new CornerStones();
        Boards.write(x, "B3s0009p");
        Checks.due("once", () -> x.load(), 1);
        Checks.due("twice", () -> x.load(), 1);
        Checks.due("the same", () -> x.about(1), 2);
        Checks.due("it goes on behind the text", () -> x.append('p'), 9);
        Checks.due("three times", () -> x.load(), 1);
        Checks.due("with one more", () -> x.about(1), 3);
        Checks.due("its length", () -> x.clearText(), 9);
    }

    private static void noGame() {
        String[] texts = {"", "B", "b5", "B2", "B8", "B5x", "B5ss", "B50", "B549", "B55", "B5p ",
            "B5" + "p".repeat(117) + "4", "B5" + "p".repeat(117) + "x"};
        for (String text : texts) {
            CornerStones x = new CornerStones();
            x.play(12);
            Boards.write(x, text);
            Checks.thrown("load " + text, () -> x.load(), Checks.STATE);
            Checks.due("it changes nothing", () -> x.stones(0), 1 << 12);
            Checks.due("nor the text", () -> x.clearText(), text.length());
        }
        Checks.due("a game", () -> Boards.loaded("B5" + "p".repeat(117) + "p").about(1), 118);
    }
}
