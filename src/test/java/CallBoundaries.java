/** What each call is for, and what the document says of several calls at once: exceptions, NONE, actions. */
final class CallBoundaries {
    private static final String NUMBER = "Returns that number.";

    private CallBoundaries() {
    }

    static void run() {
        severalCalls();
        texts();
        whatThereIs();
        actions();
        whatWouldBe();
    }

    private static void severalCalls() {
        Checks.holds("Promise 16, undo", "Changes can be undone.", CallBoundaries::undone);
        Checks.holds("Promise 16, undo", "The methods in the section \"actions\" change", CallBoundaries::changing);
        Checks.holds("Promise 9, point", "IndexOutOfBoundsException means that a point or a colour does not exist, or that a"
                + " save slot is not 0 or 1.", CallBoundaries::indexes);
        Checks.holds("Promise 6, about", "IllegalArgumentException means that another argument is out of its range.",
                CallBoundaries::arguments);
        Checks.holds("Promise 13, play", "IllegalStateException means what the method says.", CallBoundaries::states);
        Checks.holds("Promise 4, errorPosition", "NONE = -1: There is no such result.", CallBoundaries::none);
    }

    private static void texts() {
        Checks.holds("Promise 2, append", "Appends a character to the text buffer.", CallBoundaries::appends);
        Checks.holds("Promise 3, clearText", "Empties the text buffer.", CallBoundaries::empties);
    }

    private static void whatThereIs() {
        Checks.holds("Promise 6, about", "Returns a number.", CallBoundaries::eachNumber);
        Checks.holds("Promise 6, about", "0: the rows;", CallBoundaries::rows);
        Checks.holds("Promise 6, about", "2: the colour that has the turn;", CallBoundaries::turn);
        Checks.holds("Promise 6, about", NUMBER, CallBoundaries::numbersGoOn);
        Checks.holds("Promise 7, stones", "Returns the stones of a colour.", CallBoundaries::stones);
        Checks.holds("Promise 8, colour", "Returns a number of a colour.", CallBoundaries::eachNumberOfColour);
        Checks.holds("Promise 8, colour", "2: its area;", CallBoundaries::area);
        Checks.holds("Promise 8, colour", NUMBER, CallBoundaries::numbersOfColourGoOn);
        Checks.holds("Promise 9, point", "Returns a number of a point.", CallBoundaries::eachNumberOfPoint);
        Checks.holds("Promise 9, point", NUMBER, CallBoundaries::numbersOfPointGoOn);
        Checks.holds("Promise 10, group", "Returns the group of a stone.", CallBoundaries::groups);
        Checks.holds("Promise 10, group", "0: the points of the group; 1: its liberties", CallBoundaries::bothSets);
        Checks.holds("Promise 11, why", "Tells why a stone may not be laid by the one who has the turn.", CallBoundaries::why);
    }

    private static void actions() {
        Checks.holds("Promise 13, play", "The one who has the turn lays a stone.", CallBoundaries::lays);
        Checks.holds("Promise 14, pass", "The one who has the turn passes.", CallBoundaries::passes);
        Checks.holds("Promise 15, set", "Changes setting 0: which positions must not come.", CallBoundaries::setting);
    }

    private static void whatWouldBe() {
        Checks.holds("Promise 17, ifPlayed", "Tells what a stone would do.", CallBoundaries::wouldDo);
        Checks.holds("Promise 18, bestTake", "Finds the stone that takes most.", CallBoundaries::best);
        Checks.holds("Promise 19, choices", "Returns how many there are.", CallBoundaries::choices);
        Checks.holds("Promise 20, ladder", "Tells whether a ladder works.", CallBoundaries::ladders);
        Checks.holds("Promise 21, chase", "Finds where a chaser begins.", CallBoundaries::chases);
        Checks.holds("Promise 22, lead", "Tells who has more.", CallBoundaries::lead);
    }

    // ---- several calls

    private static final Answers.Deed SOME = x -> {
        Boards.write(x, "B4p");
        x.board(3);
        x.play(1);
        x.play(0);
        x.save(1);
    };

    private static void undone() {
        Answers.unchanged("board", SOME, x -> {
            x.board(7);
            x.undo();
        });
        Answers.unchanged("a stone that takes", SOME, x -> {
            x.play(3);
            x.undo();
        });
        Answers.unchanged("pass", SOME, x -> {
            x.pass();
            x.undo();
        });
        Answers.unchanged("set", SOME, x -> {
            x.set(1);
            x.undo();
        });
        Answers.unchanged("all of them", SOME, x -> {
            x.set(1);
            x.play(3);
            x.pass();
            x.board(6);
            x.play(35);
            for (int i = 0; i < 5; i++) {
                x.undo();
            }
        });
    }

    private static void changing() {
        CornerStones x = new CornerStones();
        x.board(4);
        Checks.due("board", () -> x.about(0), 4);
        x.play(15);
        Checks.due("play", () -> x.stones(0), 1L << 15);
        x.pass();
        Checks.due("pass", () -> x.about(3), 1);
        x.set(1);
        Checks.due("set", () -> x.about(7), 1);
        x.undo();
        Checks.due("undo", () -> x.about(7), 0);
        Answers.Deed[] others = {y -> y.append('B'), y -> y.clearText(), y -> y.errorPosition(), y -> y.about(1),
            y -> y.stones(0), y -> y.colour(0, 2), y -> y.point(0, 4), y -> y.group(0, 1), y -> y.why(0), y -> y.ifPlayed(0, 0),
            y -> y.bestTake(), y -> y.choices(), y -> y.ladder(0, 0), y -> y.chase(0), y -> y.lead(),
            y -> y.runScript(1, 2000), y -> y.simulate(1, 9), y -> y.save(0)};
        for (Answers.Deed other : others) {
            CornerStones y = new CornerStones();
            other.on(y);
            Checks.due("no other one: moves", () -> y.about(1), 0);
            Checks.due("no other one: empty points", () -> y.point(0, 4), 25);
            Checks.thrown("no other one is an action", () -> y.undo(), Checks.STATE);
        }
    }

    private static void indexes() {
        CornerStones x = new CornerStones();
        x.save(0);
        x.save(1);
        for (int i = -2; i < 28; i++) {
            int k = i;
            String want = k >= 0 && k < 25 ? "answers" : Checks.INDEX;
            throwsOrAnswers("point " + k, () -> x.point(k, 0), want);
            throwsOrAnswers("group " + k, () -> x.group(k, 0), want);
            throwsOrAnswers("why " + k, () -> x.why(k), want);
            throwsOrAnswers("ifPlayed " + k, () -> x.ifPlayed(k, 0), want);
            throwsOrAnswers("ladder " + k, () -> x.ladder(k, 0), want);
            throwsOrAnswers("chase " + k, () -> x.chase(k), want);
            throwsOrAnswers("play " + k, () -> new CornerStones().play(k), want);
        }
        for (int i = -2; i < 4; i++) {
            int n = i;
            String want = n == 0 || n == 1 ? "answers" : Checks.INDEX;
            throwsOrAnswers("stones " + n, () -> x.stones(n), want);
            throwsOrAnswers("colour " + n, () -> x.colour(n, 0), want);
            throwsOrAnswers("save " + n, () -> x.save(n), want);
            throwsOrAnswers("restore " + n, () -> x.restore(n), want);
        }
    }

    private static void throwsOrAnswers(String name, Checks.Call call, String want) {
        String told = Checks.told(call);
        Checks.same(name, told.startsWith("throws") ? told : "answers", want);
    }

    private interface Of {
        long answer(CornerStones x, int argument);
    }

    private static void arguments() {
        inRange("append", (x, a) -> x.append(a), 0, 255);
        inRange("about", (x, a) -> x.about(a), 0, 7);
        inRange("colour", (x, a) -> x.colour(1, a), 0, 5);
        inRange("point", (x, a) -> x.point(24, a), 0, 5);
        inRange("group", (x, a) -> x.group(24, a), 0, 1);
        inRange("board", (x, a) -> x.board(a), 3, 7);
        inRange("set", (x, a) -> x.set(a), 0, 1);
        inRange("ifPlayed", (x, a) -> x.ifPlayed(24, a), 0, 3);
        inRange("ladder", (x, a) -> x.ladder(24, a), 0, 1);
        inRange("the number of commands", (x, a) -> x.runScript(a, 0), 1, 4);
        inRange("a script", (x, a) -> x.runScript(1, a), 0, 9999);
        inRange("simulate", (x, a) -> x.simulate(0, a), 1, 100);
    }

    /** All arguments near the range, on a new object each, as no answer depends on another one then. */
    private static void inRange(String name, Of call, int least, int most) {
        for (int i = least - 3; i <= most + 3; i++) {
            int a = i;
            throwsOrAnswers(name + " " + a, () -> call.answer(new CornerStones(), a),
                    a >= least && a <= most ? "answers" : Checks.ARGUMENT);
        }
    }

    private static void states() {
        CornerStones x = new CornerStones();
        Checks.thrown("load without a game", () -> x.load(), Checks.STATE);
        Checks.thrown("undo of nothing", () -> x.undo(), Checks.STATE);
        Checks.thrown("restore of nothing", () -> x.restore(0), Checks.STATE);
        Boards.write(x, "B3" + "p".repeat(117));
        Checks.due("the last character", () -> x.append('p'), 120);
        Checks.thrown("append to a full text", () -> x.append('p'), Checks.STATE);
        Checks.due("load of a game", () -> x.load(), 0);
        Checks.due("a pass", () -> x.pass(), 119);
        Checks.due("the last move", () -> x.play(4), 0);
        Checks.thrown("a pass with 120 moves", () -> x.pass(), Checks.STATE);
        Checks.thrown("a stone with 120 moves", () -> x.play(0), Checks.STATE);
        Checks.due("undo of a stone", () -> x.undo(), 1);
        Checks.due("save", () -> x.save(0), 119);
        Checks.due("restore of it", () -> x.restore(0), 119);
        Checks.thrown("restore of the other one", () -> x.restore(1), Checks.STATE);
        Checks.due("a stone", () -> x.play(8), 0);
        CornerStones y = new CornerStones();
        y.play(0);
        Checks.thrown("a stone on a stone", () -> y.play(0), Checks.STATE);
        Checks.due("beside it", () -> y.play(1), 0);
        y.undo();
        Checks.due("undo of the only action left", () -> y.undo(), 0);
        Checks.thrown("undo of nothing left", () -> y.undo(), Checks.STATE);
        Boards.passTo(y, 119);
        Checks.due("the last pass", () -> y.pass(), 120);
        Checks.thrown("a pass too many", () -> y.pass(), Checks.STATE);
    }

    private static void none() {
        CornerStones x = new CornerStones();
        Checks.due("the constant", () -> CornerStones.NONE, -1);
        Checks.due("no colour", () -> x.point(0, 0), CornerStones.NONE);
        Checks.due("no ladder, the chaser", () -> x.ladder(0, 0), CornerStones.NONE);
        Checks.due("no ladder, the owner", () -> x.ladder(0, 1), CornerStones.NONE);
        Checks.due("no chase", () -> x.chase(0), CornerStones.NONE);
        Checks.due("nothing to take", () -> x.bestTake(), CornerStones.NONE);
        Checks.due("no command that fails", () -> x.runScript(1, 2000), CornerStones.NONE);
        x.play(0);
        for (int i = 0; i < 4; i++) {
            int what = i;
            Checks.due("no such stone", () -> x.ifPlayed(0, what), CornerStones.NONE);
        }
        Boards.write(x, "B3");
        Checks.due("no error", () -> x.errorPosition(), CornerStones.NONE);
    }

    // ---- text

    private static void appends() {
        CornerStones x = new CornerStones();
        x.append('B');
        Checks.due("one character", () -> x.errorPosition(), 1);
        x.append('5');
        Checks.due("two characters", () -> x.errorPosition(), -1);
        Boards.write(x, "5B");
        Checks.due("in the other order", () -> x.errorPosition(), 0);
        for (int i = 2; i < 120; i++) {
            CornerStones y = new CornerStones();
            int place = i;
            Boards.write(y, "B5" + "p".repeat(place - 2));
            Checks.due("a game", () -> y.errorPosition(), -1);
            y.append('x');
            for (int n = place + 1; n < 120; n++) {
                y.append('p');
            }
            Checks.due("the character " + place + " is kept", () -> y.errorPosition(), place);
        }
    }

    private static void empties() {
        CornerStones x = new CornerStones();
        Boards.write(x, "B5ppp");
        x.clearText();
        Checks.due("no character", () -> x.errorPosition(), 0);
        Checks.thrown("no game", () -> x.load(), Checks.STATE);
        Checks.due("the first one", () -> x.append('B'), 1);
        Checks.due("the others do not come back", () -> x.errorPosition(), 1);
        Checks.due("the second one", () -> x.append('4'), 2);
        Checks.due("a game without moves", () -> x.load(), 0);
        Checks.due("the moves before do not come back", () -> x.about(1), 0);
        Boards.write(x, "x".repeat(120));
        Checks.due("a full one", () -> x.clearText(), 120);
        Checks.due("it was emptied", () -> x.clearText(), 0);
        Checks.due("it has room", () -> x.append(0), 1);
    }

    // ---- what there is

    private static void aboutIs(CornerStones x, int... want) {
        for (int i = 0; i < want.length; i++) {
            int what = i;
            Checks.due("about " + what, () -> x.about(what), want[what]);
        }
    }

    private static CornerStones someNumbers() {
        CornerStones x = new CornerStones();
        x.board(6);
        x.set(1);
        x.play(0);
        x.play(1);
        x.pass();
        x.pass();
        x.play(14);
        x.pass();
        x.pass();
        return x;
    }

    private static void eachNumber() {
        aboutIs(new CornerStones(), 5, 0, 0, 0, 0, 0, 0, 0);
        aboutIs(someNumbers(), 6, 7, 1, 4, 1, 3, 1, 1);
    }

    private static void numbersGoOn() {
        CornerStones x = someNumbers();
        x.play(13);
        aboutIs(x, 6, 8, 0, 4, 0, 4, 1, 1);
        x.play(6);
        aboutIs(x, 6, 9, 1, 4, 0, 4, 0, 1);
        x.pass();
        aboutIs(x, 6, 10, 0, 5, 0, 4, 0, 1);
        x.undo();
        aboutIs(x, 6, 9, 1, 4, 0, 4, 0, 1);
        x.board(3);
        aboutIs(x, 3, 0, 0, 0, 0, 0, 0, 1);
    }

    private static void rows() {
        CornerStones x = new CornerStones();
        Checks.due("at first", () -> x.about(0), 5);
        x.save(0);
        for (int r = 3; r <= 7; r++) {
            int rows = r;
            x.board(rows);
            Checks.due("laid out", () -> x.about(0), rows);
            Boards.write(x, "B" + (10 - rows));
            x.save(1);
            x.load();
            Checks.due("loaded", () -> x.about(0), 10 - rows);
        }
        x.board(7);
        x.undo();
        Checks.due("taken back", () -> x.about(0), 3);
    }

    private static void turn() {
        CornerStones x = new CornerStones();
        Checks.due("at first", () -> x.about(2), 0);
        x.play(0);
        Checks.due("behind a stone", () -> x.about(2), 1);
        x.save(0);
        x.pass();
        Checks.due("behind a pass", () -> x.about(2), 0);
        x.pass();
        Checks.due("behind another pass", () -> x.about(2), 1);
        x.undo();
        Checks.due("taken back", () -> x.about(2), 0);
        x.restore(0);
        Checks.due("restored", () -> x.about(2), 1);
        x.set(1);
        Checks.due("set is no move", () -> x.about(2), 1);
        x.board(4);
        Checks.due("another board", () -> x.about(2), 0);
        Checks.due("loaded", () -> Boards.loaded("B3p00").about(2), 0);
        Checks.due("a move that is left out is none", () -> Boards.loaded("B30000").about(2), 1);
    }

    private static void stones() {
        String[] rows = {"X.O.X", ".OXO.", "XX.OO", ".O.X.", "O.X.O"};
        CornerStones x = Boards.drawn(0, rows);
        Checks.due("those of 0", () -> x.stones(0), Boards.set(0, 4, 7, 10, 11, 18, 22));
        Checks.due("those of 1", () -> x.stones(1), Boards.set(2, 6, 8, 13, 14, 16, 20, 24));
        Checks.due("a stone more", () -> Long.bitCount(afterPlay(x, 12).stones(0)), 8);
        CornerStones y = Boards.drawn(0, "OX.", "...", "...");
        y.play(3);
        Checks.due("a stone that is taken is none", () -> y.stones(1), 0);
        Checks.due("those that took it", () -> y.stones(0), Boards.set(1, 3));
    }

    private static CornerStones afterPlay(CornerStones x, int k) {
        x.play(k);
        return x;
    }

    private static void colourIs(CornerStones x, int c, int... want) {
        for (int i = 0; i < want.length; i++) {
            int what = i;
            Checks.due("colour " + c + ", " + what, () -> x.colour(c, what), want[what]);
        }
    }

    private static CornerStones someColours() {
        return Boards.drawn(0, ".X.X...", "XXXXX..", "..X..OO", "....O.O", "...O.OO", "X..OO..", ".X..O.O");
    }

    private static void eachNumberOfColour() {
        CornerStones x = someColours();
        // the colour 0 has eyes at 0, 2 and 42; the other one eyes at 26 and 32, and the part of 40, 41 and 47
        colourIs(x, 0, 10, 0, 13, 3, 0, 3);
        colourIs(x, 1, 11, 0, 16, 2, 0, 4);
    }

    private static void numbersOfColourGoOn() {
        CornerStones x = new CornerStones();
        colourIs(x, 0, 0, 0, 0, 0, 0, 0);
        colourIs(x, 1, 0, 0, 0, 0, 0, 0);
        x.play(1);
        colourIs(x, 0, 1, 0, 25, 0, 0, 1);
        colourIs(x, 1, 0, 0, 0, 0, 0, 0);
        x.play(0);
        colourIs(x, 0, 1, 0, 1, 0, 0, 1);
        colourIs(x, 1, 1, 0, 1, 0, 0, 1);
        x.play(5);
        colourIs(x, 0, 2, 1, 25, 1, 0, 2);
        colourIs(x, 1, 0, 0, 0, 0, 0, 0);
        x.play(6);
        colourIs(x, 0, 2, 1, 3, 0, 1, 2);
        colourIs(x, 1, 1, 0, 1, 0, 0, 1);
    }

    private static void area() {
        CornerStones x = Boards.drawn(0, ".X.O.", "XX.OO", ".....", ".....", ".....");
        Checks.due("three stones and the point 0", () -> x.colour(0, 2), 4);
        Checks.due("three stones and the point 4", () -> x.colour(1, 2), 4);
        CornerStones wall = Boards.drawn(0, "..XO...", "..XO...", "..XO...", "..XO...", "..XO...", "..XO...", "..XO...");
        Checks.due("left of the wall", () -> wall.colour(0, 2), 21);
        Checks.due("right of it", () -> wall.colour(1, 2), 28);
    }

    private static void eachNumberOfPoint() {
        CornerStones x = someColours();
        PromisesTest.pointIs(x, 0, -1, 0, 0, 2, 1, 0);
        PromisesTest.pointIs(x, 1, 0, 8, 9, 0, 0, 2);
        PromisesTest.pointIs(x, 7, 0, 8, 9, 0, 0, 2);
        PromisesTest.pointIs(x, 19, 1, 5, 7, 0, 0, 2);
        PromisesTest.pointIs(x, 42, -1, 0, 0, 2, 1, 0);
        PromisesTest.pointIs(x, 47, -1, 0, 0, 0, 3, 0);
    }

    private static void numbersOfPointGoOn() {
        CornerStones x = new CornerStones();
        x.board(3);
        PromisesTest.pointIs(x, 0, -1, 0, 0, 0, 9, 0);
        x.play(1);
        PromisesTest.pointIs(x, 0, -1, 0, 0, 0, 8, 0);
        PromisesTest.pointIs(x, 1, 0, 1, 3, 0, 0, 0);
        x.play(0);
        PromisesTest.pointIs(x, 0, 1, 1, 1, 0, 0, 0);
        PromisesTest.pointIs(x, 1, 0, 1, 2, 0, 0, 0);
        x.play(3);
        PromisesTest.pointIs(x, 0, -1, 0, 0, 2, 1, 0);
        PromisesTest.pointIs(x, 1, 0, 1, 3, 0, 0, 1);
        x.play(4);
        PromisesTest.pointIs(x, 0, -1, 0, 0, 1, 1, 0);
        PromisesTest.pointIs(x, 1, 0, 1, 2, 0, 0, 0);
    }

    private static void groups() {
        CornerStones x = Boards.drawn(0, "XX.OO", ".X.O.", "XXX.O", ".....", "O...X");
        for (int k : new int[] {0, 1, 6, 10, 11, 12}) {
            Checks.due("that of 0 from " + k, () -> x.group(k, 0), Boards.set(0, 1, 6, 10, 11, 12));
        }
        for (int k : new int[] {3, 4, 8}) {
            Checks.due("that of 1 from " + k, () -> x.group(k, 0), Boards.set(3, 4, 8));
        }
        for (int k : new int[] {14, 20, 24}) {
            Checks.due("one stone alone", () -> x.group(k, 0), 1L << k);
        }
    }

    private static void bothSets() {
        CornerStones x = Boards.drawn(0, "XX.OO", ".X.O.", "XXX.O", ".....", "O...X");
        Checks.due("the liberties of the group of 0", () -> x.group(12, 1), Boards.set(2, 5, 7, 13, 15, 16, 17));
        Checks.due("its points", () -> x.group(12, 0), Boards.set(0, 1, 6, 10, 11, 12));
        Checks.due("the liberties of the group of 1", () -> x.group(4, 1), Boards.set(2, 7, 9, 13));
        Checks.due("its points", () -> x.group(4, 0), Boards.set(3, 4, 8));
    }

    private static void why() {
        CornerStones x = Boards.drawn(0, ".X.", "X.O", ".O.");
        Checks.due("beside own stones", () -> x.why(0), 0);
        Checks.due("between those of the other one", () -> x.why(8), 2);
        Checks.due("no empty point", () -> x.why(1), 1);
        x.pass();
        Checks.due("the other one between them", () -> x.why(0), 2);
        Checks.due("the other one beside its own", () -> x.why(8), 0);
        Checks.due("no empty point for the other one", () -> x.why(1), 1);
        CornerStones ko = Boards.ko(0);
        Checks.due("the position would come again", () -> ko.why(6), 3);
        Boards.passTo(ko, 120);
        Checks.due("no moves are left", () -> ko.why(6), 4);
    }

    // ---- actions

    private static void lays() {
        CornerStones x = new CornerStones();
        x.board(7);
        long[] stones = {0, 0};
        for (int i = 0; i < 49; i += 2) {
            int k = i;
            int c = x.about(2);
            Checks.due("play " + k, () -> x.play(k), 0);
            stones[c] |= 1L << k;
            Checks.due("the one with the turn has it", () -> x.point(k, 0), c);
            Checks.due("stones of 0", () -> x.stones(0), stones[0]);
            Checks.due("stones of 1", () -> x.stones(1), stones[1]);
            Checks.due("the other one has the turn", () -> x.about(2), 1 - c);
        }
        Checks.due("no passes", () -> x.about(3), 0);
        x.pass();
        x.play(1);
        Checks.due("behind a pass it is the other one's", () -> x.point(1, 0), 0);
        Checks.due("stones and a pass", () -> x.about(1), 27);
    }

    private static void passes() {
        CornerStones x = Boards.drawn(0, "XO.", ".X.", "..O");
        int before = x.about(3);
        int moves = x.about(1);
        for (int i = 1; i <= 4; i++) {
            int n = i;
            Checks.due("pass", () -> x.pass(), before + n);
            Checks.due("the turn", () -> x.about(2), n % 2);
            Checks.due("the moves", () -> x.about(1), moves + n);
            Boards.same(x, "XO.", ".X.", "..O");
        }
        Checks.due("no captives", () -> x.colour(0, 1) + x.colour(1, 1), 0);
    }

    private static void setting() {
        CornerStones x = Boards.ko(0);
        Checks.due("that ahead of the latest move", () -> x.why(6), 3);
        x.pass();
        x.pass();
        Checks.due("with 0 it may come later", () -> x.why(6), 0);
        x.set(1);
        Checks.due("with 1 it may not", () -> x.why(6), 3);
        Checks.thrown("nor be laid", () -> x.play(6), Checks.STATE);
        x.set(0);
        Checks.due("with 0 again it may", () -> x.why(6), 0);
        Checks.due("and be laid", () -> x.play(6), 1);
    }

    // ---- what would be

    private static final String[] FIGHT = {".XO.OX.", "XO.XX.O", ".OXO.OX", "..O.OX.", "XOX.XO.", ".XOO.X.", "..X.OX."};

    private static CornerStones fight(int turn) {
        return Boards.drawn(turn, FIGHT);
    }

    private static void wouldDo() {
        for (int turn = 0; turn < 2; turn++) {
            CornerStones x = fight(turn);
            for (int i = 0; i < 49; i++) {
                int k = i;
                CornerStones then = fight(turn);
                if (then.why(k) != 0) {
                    Checks.due("no stone at " + k, () -> x.ifPlayed(k, 0), -1);
                } else {
                    Checks.due("what it takes at " + k, () -> then.play(k), x.ifPlayed(k, 0));
                    Checks.due("liberties at " + k, () -> then.point(k, 2), x.ifPlayed(k, 1));
                    Checks.due("stones at " + k, () -> then.point(k, 1), x.ifPlayed(k, 2));
                    Checks.due("others with one liberty at " + k, () -> oneLiberty(then), x.ifPlayed(k, 3));
                }
            }
        }
    }

    /** The groups with one liberty of the one who has the turn, counted at their lowest stones. */
    private static int oneLiberty(CornerStones x) {
        int count = 0;
        for (int k = 0; k < 49; k++) {
            boolean isLowest = x.group(k, 0) != 0 && Long.numberOfTrailingZeros(x.group(k, 0)) == k;
            count += isLowest && x.point(k, 0) == x.about(2) && x.point(k, 2) == 1 ? 1 : 0;
        }
        return count;
    }

    private static void best() {
        for (int turn = 0; turn < 2; turn++) {
            CornerStones x = fight(turn);
            int most = 0;
            int found = -1;
            for (int k = 0; k < 49; k++) {
                if (x.ifPlayed(k, 0) > most) {
                    most = x.ifPlayed(k, 0);
                    found = k;
                }
            }
            int want = found;
            Checks.due("the most of " + turn, () -> x.bestTake(), want);
            Checks.due("there is one", () -> want == -1 ? 0 : 1, 1);
        }
    }

    private static void choices() {
        for (int rows = 3; rows <= 7; rows++) {
            CornerStones x = new CornerStones();
            int points = x.board(rows);
            Checks.due("all", () -> x.choices(), points);
            x.play(0);
            Checks.due("all but one", () -> x.choices(), points - 1);
        }
        for (int turn = 0; turn < 2; turn++) {
            CornerStones x = fight(turn);
            int may = 0;
            for (int k = 0; k < 49; k++) {
                may += x.why(k) == 0 ? 1 : 0;
            }
            int want = may;
            Checks.due("choices of " + turn, () -> x.choices(), want);
        }
        Checks.due("the only point, which takes", () -> Boards.fullButOne(5, 0, 12).choices(), 1);
        CornerStones own = Boards.fullButOne(5, 0, 12);
        own.pass();
        Checks.due("the only point, without a liberty", () -> own.choices(), 0);
    }

    /** The chaser lays where it should, the owner at its only liberty, until the group is taken. */
    private static void ladders() {
        CornerStones x = LadderBoundaries.open();
        Checks.due("it works", () -> x.ladder(16, 0), 1);
        int laid = 0;
        while (x.point(16, 0) == 1 && laid < 12) {
            Boards.turnTo(x, 0);
            Checks.due("it works still", () -> x.ladder(16, 0), 1);
            x.play(x.chase(16));
            laid++;
            if (x.point(16, 0) == 1) {
                Checks.due("for the owner too", () -> x.ladder(16, 1), 1);
                int way = Long.numberOfTrailingZeros(x.group(16, 1));
                if (x.why(way) == 0) {
                    x.play(way);
                }
            }
        }
        Checks.due("the group is taken", () -> x.point(16, 0), -1);
        CornerStones stopped = Boards.drawn(0, ".......", "..XX...", ".XO....", "....O..", ".......", ".......", ".......");
        Checks.due("it does not work", () -> stopped.ladder(16, 0), 0);
    }

    private static void chases() {
        String[] far = {".......", "..XX...", ".XO....", ".......", ".......", ".....O.", "......."};
        for (CornerStones x : new CornerStones[] {LadderBoundaries.open(), Boards.drawn(0, far)}) {
            int want = -1;
            for (int k : new int[] {23, 17}) {
                Boards.turnTo(x, 0);
                x.play(k);
                want = x.ladder(16, 1) == 1 ? k : want;
                x.undo();
            }
            int first = want;
            Checks.due("the first stone, laid and asked", () -> x.chase(16), first);
        }
        Checks.due("in the open", () -> LadderBoundaries.open().chase(16), 23);
        Checks.due("with a stone in the way", () -> Boards.drawn(0, far).chase(16), -1);
    }

    private static void lead() {
        String[] left = {"..XO.", "..XO.", "..XO.", "..XO.", "..XO."};
        String[] right = {".XO..", ".XO..", ".XO..", ".XO..", ".XO.."};
        String[] even = {".X.O.", ".X.O.", ".X.O.", ".X.O.", ".X.O."};
        Checks.due("the colour 0", () -> Boards.drawn(0, left).lead(), 5);
        Checks.due("the colour 1", () -> Boards.drawn(0, right).lead(), -5);
        Checks.due("neither", () -> Boards.drawn(0, even).lead(), 0);
        Checks.due("no stones", () -> new CornerStones().lead(), 0);
        Checks.due("the whole board of 0", () -> Boards.loaded("B724").lead(), 49);
        Checks.due("the whole board of 1", () -> Boards.loaded("B7p24").lead(), -49);
    }
}
