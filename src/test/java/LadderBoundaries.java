/** Ladders (promises 20 and 21): who may lay where, one, two and three liberties, at most twelve stones. */
final class LadderBoundaries {
    private LadderBoundaries() {
    }

    static void run() {
        Checks.holds("Promise 20, ladder", "A ladder is asked on a group; the chaser is the colour that the group does not"
                + " have, the owner the other one.", LadderBoundaries::chaserAndOwner);
        Checks.holds("Promise 20, ladder", "In a ladder it does not matter which positions there were, or how many moves:",
                LadderBoundaries::positionsAndMoves);
        Checks.holds("Promise 20, ladder", "a stone may be laid on an empty point, if its own group has a liberty then.",
                LadderBoundaries::ownLiberty);
        Checks.holds("Promise 20, ladder", "Groups without liberty are taken as always.", LadderBoundaries::takenGroups);
        twelveStones();
        chasersTurn();
        ownersTurn();
        Checks.holds("Promise 20, ladder", "Returns 1 if the ladder on the group of this stone works, 0 if not; NONE if the"
                + " point is empty.", LadderBoundaries::emptyPoint);
        Checks.holds("Promise 20, ladder", "0: if the chaser has the turn; 1: if its owner has it", LadderBoundaries::whoseTurn);
        Checks.holds("Promise 21, chase", "Returns the lowest liberty of the group of this stone at which the first stone of"
                + " the chaser makes the ladder work", LadderBoundaries::lowestLiberty);
        Checks.holds("Promise 21, chase", "NONE if none does, or the point is empty.", LadderBoundaries::noChase);
    }

    private static void twelveStones() {
        Checks.holds("Promise 20, ladder", "a number d of stones that the chaser may lay at most, 12 at first:",
                LadderBoundaries::twelveForChaser);
        Checks.holds("Promise 20, ladder", "Whether a ladder works is told for who has the turn, and a number d",
                LadderBoundaries::twelveForOwner);
        Checks.holds("Promise 20, ladder", "If the chaser has the turn, it works if d is not 0, and the group has one"
                + " liberty,",
                LadderBoundaries::lastStoneTakes);
        Checks.holds("Promise 20, ladder", "and if d is not 0, and the group has two liberties,",
                LadderBoundaries::lastStoneHolds);
        Checks.holds("Promise 21, chase", "(as the ladder tells, with d as 12);", LadderBoundaries::twelveForChase);
        Checks.holds("Promise 23, runScript", "7 k k b: succeeds if ladder(kk, 0) is b.", LadderBoundaries::twelveForScript);
    }

    private static void chasersTurn() {
        Checks.holds("Promise 20, ladder", "and the group has one liberty, and the chaser may lay a stone there;",
                LadderBoundaries::oneLiberty);
        Checks.holds("Promise 20, ladder", "the group has two liberties, and for one of them the chaser may lay a stone there,"
                + " and behind that the ladder on the group works, if the owner has the turn, with d less 1.",
                LadderBoundaries::twoLiberties);
        Checks.holds("Promise 20, ladder", "with d less 1. Otherwise it does not work.", LadderBoundaries::threeLiberties);
    }

    private static void ownersTurn() {
        Checks.holds("Promise 20, ladder", "If the owner has the turn, it works if the group has one liberty, and the owner may"
                + " not lay a stone there;", LadderBoundaries::ownerStuck);
        Checks.holds("Promise 20, ladder", "and if the group has one liberty, and behind a stone that the owner lays there its"
                + " group has one or two liberties, and the ladder on that works, if the chaser has the turn, with d.",
                LadderBoundaries::ownerGoesOn);
        Checks.holds("Promise 20, ladder", "with d. Otherwise it does not work.", LadderBoundaries::ownerGetsOut);
    }

    private static void ladderIs(CornerStones x, int k, int chaser, int owner) {
        Checks.due("ladder " + k + ", the chaser's turn", () -> x.ladder(k, 0), chaser);
        Checks.due("ladder " + k + ", the owner's turn", () -> x.ladder(k, 1), owner);
    }

    static CornerStones open() {
        return Boards.drawn(0, ".......", "..XX...", ".XO....", ".......", ".......", ".......", ".......");
    }

    private static void chaserAndOwner() {
        for (int turn = 0; turn < 2; turn++) {
            ladderIs(Boards.drawn(turn, "OX.", "...", "..."), 0, 1, 1);
            ladderIs(Boards.drawn(turn, "XO.", "...", "..."), 0, 1, 1);
            ladderIs(Boards.drawn(turn, ".......", "..OO...", ".OX....", ".......", ".......", ".......", "......."), 16, 1, 0);
        }
        CornerStones two = Boards.drawn(0, "OOX..", "X....", ".....", ".....", ".....");
        Checks.due("its first stone", () -> two.ladder(0, 0), 1);
        Checks.due("its other stone", () -> two.ladder(1, 0), 1);
    }

    private static void positionsAndMoves() {
        for (int setting = 0; setting < 2; setting++) {
            CornerStones x = Boards.ko(setting);
            Checks.due("no stone may take it", () -> x.why(6), 3);
            ladderIs(x, 7, 1, 0);
            Checks.due("but the chaser begins there", () -> x.chase(7), 6);
        }
        CornerStones full = Boards.drawn(0, "OX.", "...", "...");
        CornerStones far = open();
        Boards.passTo(full, 120);
        Boards.passTo(far, 120);
        ladderIs(full, 0, 1, 1);
        Checks.due("chase with 120 moves", () -> full.chase(0), 3);
        ladderIs(far, 16, 1, 0);
        Checks.due("a long one with 120 moves", () -> far.chase(16), 23);
    }

    private static void ownLiberty() {
        CornerStones owner = Boards.drawn(0, ".OX", "XX.", "...");
        ladderIs(owner, 1, 1, 1);
        CornerStones mouth = Boards.drawn(0, ".O.X.", "OOXX.", "XX...", ".....", ".....");
        Checks.due("no liberty for the chaser at 0", () -> mouth.why(0), 2);
        Checks.due("so it begins at 2", () -> mouth.chase(1), 2);
        Checks.due("behind that the owner has none at 0", () -> mouth.ladder(1, 0), 1);
        CornerStones eyes = Boards.drawn(0, ".O.OX", "OOOOX", "XXXX.", ".....", ".....");
        Checks.due("no liberty for the chaser in either eye", () -> eyes.ladder(1, 0), 0);
        Checks.due("so nothing chases it", () -> eyes.chase(1), -1);
        CornerStones one = Boards.drawn(0, ".OX", "OOX", "XX.");
        Checks.due("in the only eye the stone takes, and then has one", () -> one.chase(1), 0);
    }

    private static void takenGroups() {
        CornerStones taken = Boards.drawn(0, "OX...", ".....", "XO...", "O....", ".....");
        Checks.due("the owner's stone takes the one at 10, and gets out", () -> taken.ladder(0, 1), 0);
        CornerStones held = Boards.drawn(0, "OX...", ".....", "XO...", ".....", ".....");
        Checks.due("the one at 10 has a liberty left, at 15", () -> held.ladder(0, 1), 1);
        CornerStones chaser = Boards.drawn(0, ".OX..", "OX...", ".....", ".....", ".....");
        Checks.due("the chaser's stone at 0 takes another group", () -> chaser.chase(5), 0);
        CornerStones none = Boards.drawn(0, ".O...", "OX...", ".....", ".....", ".....");
        Checks.due("it takes none, and has no liberty there", () -> none.chase(5), 10);
    }

    private static void twelveForChaser() {
        CornerStones eleven = Boards.drawn(0, "O..O...", ".......", ".......", ".......", "O......", ".......", ".....O.");
        Checks.due("eleven", () -> eleven.ladder(0, 0), 1);
        CornerStones twelve = Boards.drawn(0, "..O...O", ".......", ".......", ".......", "......O", ".......", ".......");
        Checks.due("twelve", () -> twelve.ladder(6, 0), 1);
        CornerStones thirteen = Boards.drawn(0, ".......", ".......", ".......", ".......", "O.....O", "O......", "O.....O");
        Checks.due("thirteen", () -> thirteen.ladder(48, 0), 0);
        CornerStones fourteen = Boards.drawn(0, "......O", "..O....", "O......", "O.....O", ".......", ".......", ".......");
        Checks.due("fourteen", () -> fourteen.ladder(6, 0), 0);
    }

    private static void twelveForOwner() {
        CornerStones eleven = Boards.drawn(0, ".......", ".......", ".......", ".......", ".......", "..O...X", "......O");
        Checks.due("eleven", () -> eleven.ladder(48, 1), 1);
        CornerStones twelve = Boards.drawn(0, ".......", ".......", ".X....O", ".......", "......O", "X.....O", "O......");
        Checks.due("twelve", () -> twelve.ladder(42, 1), 1);
        CornerStones held = Boards.drawn(0, "O....XX", "X...O..", "..O....", ".......", "X....X.", ".......", ".X.....");
        Checks.due("twelve, the last of which holds it", () -> held.ladder(0, 1), 1);
        CornerStones thirteen = Boards.drawn(0, ".......", ".......", ".......", "O......", "O......", "..O...X", "......O");
        Checks.due("thirteen", () -> thirteen.ladder(48, 1), 0);
        CornerStones last = Boards.drawn(0, ".OO.O..", ".......", ".......", ".......", ".......", ".......", "OX...X.");
        Checks.due("thirteen, the last of which would hold it", () -> last.ladder(42, 1), 0);
    }

    /** The last stone of the chaser takes the group, which has one liberty. */
    private static void lastStoneTakes() {
        CornerStones twelve = Boards.drawn(0, ".......", ".......", ".......", ".....O.", ".......", ".......", "..O...O");
        Checks.due("the twelfth takes", () -> twelve.ladder(48, 0), 1);
        CornerStones thirteen = Boards.drawn(0, ".XO....", "......O", "......O", ".......", "....O..", "......O", ".......");
        Checks.due("the thirteenth would take", () -> thirteen.ladder(2, 0), 0);
        Checks.due("the first takes", () -> Boards.drawn(0, "OX.", "...", "...").ladder(0, 0), 1);
    }

    /** Behind the last stone of the chaser the owner may not lay a stone at the only liberty. */
    private static void lastStoneHolds() {
        CornerStones twelve = Boards.drawn(0, ".OO....", "....O..", ".......", "O......", "X......", ".......", "......O");
        Checks.due("the twelfth holds it", () -> twelve.ladder(21, 0), 1);
        CornerStones thirteen = Boards.drawn(0, ".O.....", ".......", "......O", "O......", "......O", "......O", ".XO....");
        Checks.due("the thirteenth would hold it", () -> thirteen.ladder(44, 0), 0);
    }

    private static void twelveForChase() {
        CornerStones both = Boards.drawn(0, "..O...O", ".......", ".......", ".......", "......O", ".......", ".......");
        Checks.due("twelve at either one", () -> both.chase(6), 5);
        CornerStones higher = Boards.drawn(0, "X......", "......O", ".......", "O......", "XO.....", "XO.....", "......O");
        Checks.due("thirteen at the lower, eleven at the higher one", () -> higher.chase(48), 47);
        CornerStones last = Boards.drawn(0, ".......", ".......", ".....O.", "O......", "O......", ".......", "X.O...O");
        Checks.due("fourteen at the lower, twelve at the higher one", () -> last.chase(48), 47);
        CornerStones lower = Boards.drawn(0, ".......", ".....O.", ".......", ".......", ".......", ".......", "..O...O");
        Checks.due("twelve at the lower, eleven at the higher one", () -> lower.chase(48), 41);
        CornerStones none = Boards.drawn(0, ".......", ".......", ".......", ".......", "O.....O", "O......", "O.....O");
        Checks.due("thirteen at least", () -> none.chase(48), -1);
    }

    private static void twelveForScript() {
        CornerStones twelve = Boards.drawn(0, "..O...O", ".......", ".......", ".......", "......O", ".......", ".......");
        Checks.due("twelve", () -> twelve.runScript(1, 7061), -1);
        Checks.due("it is not 0", () -> twelve.runScript(1, 7060), 0);
        CornerStones thirteen = Boards.drawn(0, ".......", ".......", ".......", ".......", "O.....O", "O......", "O.....O");
        Checks.due("thirteen", () -> thirteen.runScript(1, 7480), -1);
        Checks.due("it is not 1", () -> thirteen.runScript(1, 7481), 0);
        CornerStones one = Boards.drawn(0, "OX.", "...", "...");
        Checks.due("1", () -> one.runScript(1, 7001), -1);
        for (int b = 2; b < 10; b++) {
            int other = b;
            Checks.due("no " + other, () -> one.runScript(1, 7000 + other), 0);
            Checks.due("nor if it does not work", () -> thirteen.runScript(1, 7480 + other), 0);
        }
        Checks.due("an empty point", () -> one.runScript(1, 7080), 0);
        Checks.due("no empty point has one", () -> one.runScript(1, 7081), 0);
        Checks.due("no such point", () -> one.runScript(1, 7090), 0);
    }

    private static void oneLiberty() {
        for (int k : new int[] {0, 8}) {
            CornerStones x = Boards.drawn(0, "OX.", "...", ".XO");
            Checks.due("it works", () -> x.ladder(k, 0), 1);
            Checks.due("at the only liberty", () -> x.chase(k), k == 0 ? 3 : 5);
        }
        CornerStones most = Boards.fullButOne(7, 0, 24);
        Checks.due("a group of 48", () -> most.ladder(0, 0), 1);
        Checks.due("is taken at the only empty point", () -> most.chase(0), 24);
        // beside the only liberty there is nothing but the group
        CornerStones eye = Boards.drawn(0, ".OX", "OOX", "XX.");
        ladderIs(eye, 1, 1, 1);
        Checks.due("the stone takes, so that it has a liberty", () -> eye.chase(1), 0);
    }

    private static void twoLiberties() {
        CornerStones higher = open();
        Checks.due("at the higher one alone", () -> higher.ladder(16, 0), 1);
        Checks.due("which is", () -> higher.chase(16), 23);
        CornerStones lower = Boards.drawn(0, ".......", ".......", ".......", "....O..", "....OX.", "...XX..", ".......");
        Checks.due("three liberties are too many", () -> lower.ladder(25, 0), 0);
        CornerStones turned = Boards.drawn(0, ".......", ".......", ".......", ".......", "....OX.", "...XX..", ".......");
        Checks.due("at the lower one alone", () -> turned.ladder(32, 0), 1);
        Checks.due("which is the lower", () -> turned.chase(32), 25);
        CornerStones neither = Boards.drawn(0, ".......", "..XX...", ".XO....", "....O..", ".......", ".......", ".......");
        Checks.due("at neither", () -> neither.ladder(16, 0), 0);
        Checks.due("in the corner", () -> Boards.drawn(0, "O....", ".....", ".....", ".....", ".....").chase(0), 1);
        CornerStones thirteen = Boards.drawn(0, ".O.....", ".......", "......O", "O......", "......O", "......O", ".XO....");
        Checks.due("with d less 1 each time, thirteen are too many", () -> thirteen.ladder(44, 0), 0);
    }

    private static void threeLiberties() {
        ladderIs(Boards.drawn(0, ".......", "...X...", "...O...", ".......", ".......", ".......", "......."), 17, 0, 0);
        ladderIs(Boards.drawn(0, ".......", ".......", "...O...", ".......", ".......", ".......", "......."), 17, 0, 0);
        ladderIs(Boards.drawn(0, ".O.", "...", "..."), 1, 0, 0);
        ladderIs(Boards.drawn(0, "O.O", "OOO", "X.X"), 0, 0, 0);
        Checks.due("none at three", () -> Boards.drawn(0, ".O.", "...", "...").chase(1), -1);
    }

    private static void ownerStuck() {
        ladderIs(Boards.drawn(0, "OX...", ".X...", "X....", ".....", "....."), 0, 1, 1);
        ladderIs(Boards.drawn(0, ".OX", "XXX", "..."), 1, 1, 1);
        CornerStones most = Boards.fullButOne(7, 0, 0);
        Checks.due("a full board but one", () -> most.ladder(48, 1), 1);
        ladderIs(Boards.drawn(0, "OX...", ".....", "X....", ".....", "....."), 0, 1, 1);
    }

    private static void ownerGoesOn() {
        // behind the stone at 3 the group has one liberty, at 4
        ladderIs(Boards.drawn(0, "OX.", "..X", "X.."), 0, 1, 1);
        // behind the stone at 5 it has two, at 6 and 10, and the ladder on that works
        ladderIs(Boards.drawn(0, "OX.....", ".......", ".......", ".......", ".......", ".......", "......."), 0, 1, 1);
        // it does not with a stone in the way
        ladderIs(Boards.drawn(0, "OX.....", ".......", ".O.....", ".......", ".......", ".......", "......."), 0, 1, 0);
    }

    private static void ownerGetsOut() {
        // two liberties, with the owner's turn
        ladderIs(open(), 16, 1, 0);
        Checks.due("in the corner", () -> Boards.drawn(0, "O..", "...", "...").ladder(0, 1), 0);
        // behind the owner's stone there are three liberties
        ladderIs(Boards.drawn(0, ".......", "..X....", ".XO....", "..X....", ".......", ".......", "......."), 16, 1, 0);
        // two liberties, both of them eyes, so that the owner would have none if it laid a stone at each
        ladderIs(Boards.drawn(0, ".O.OX", "OOOOX", "XXXX.", ".....", "....."), 1, 0, 0);
        ladderIs(Boards.drawn(0, ".O.O", "OOOO", "XXXX", "...."), 1, 0, 0);
        Checks.due("its stone joins another group", () -> Boards.drawn(0, "OX...", ".....", "O....", ".....", ".....").ladder(0, 1), 0);
    }

    private static void emptyPoint() {
        CornerStones x = Boards.drawn(0, "OX.", "...", "...");
        for (int k = 2; k < 9; k++) {
            ladderIs(x, k, -1, -1);
        }
        ladderIs(x, 0, 1, 1);
        CornerStones none = new CornerStones();
        ladderIs(none, 0, -1, -1);
        ladderIs(none, 24, -1, -1);
        ladderIs(Boards.fullButOne(7, 0, 48), 48, -1, -1);
    }

    private static void whoseTurn() {
        CornerStones x = Boards.drawn(1, ".......", "..X....", ".XO....", "..X....", ".......", ".......", ".......");
        Checks.due("the chaser's", () -> x.ladder(16, 0), 1);
        Checks.due("the owner's", () -> x.ladder(16, 1), 0);
        x.pass();
        Checks.due("whoever has it on the board", () -> x.ladder(16, 0), 1);
        Checks.due("the owner's still", () -> x.ladder(16, 1), 0);
    }

    private static void lowestLiberty() {
        Checks.due("the first point", () -> Boards.drawn(0, ".O.X.", "XXX..", ".....", ".....", ".....").chase(1), 0);
        Checks.due("the only one", () -> Boards.drawn(0, "...", "...", ".XO").chase(8), 5);
        Checks.due("the last point", () -> Boards.fullButOne(7, 1, 48).chase(0), 48);
        CornerStones corner = Boards.drawn(0, ".....", ".....", ".....", ".....", "....O");
        Checks.due("the lower of two that work", () -> corner.chase(24), 19);
        Checks.due("the higher if the lower does not", () -> open().chase(16), 23);
    }

    private static void noChase() {
        Checks.due("an empty point", () -> new CornerStones().chase(12), -1);
        Checks.due("beside a group", () -> Boards.drawn(0, "OX.", "...", "...").chase(3), -1);
        Checks.due("three liberties", () -> Boards.drawn(0, ".O.", "...", "...").chase(1), -1);
        CornerStones gone = Boards.drawn(0, ".......", "..XX...", ".XO....", "....O..", ".......", ".......", ".......");
        Checks.due("two that do not work", () -> gone.chase(16), -1);
    }
}
