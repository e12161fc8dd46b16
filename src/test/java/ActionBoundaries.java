/** Actions, undo and the save slots (promises 12, 15, 16, 25 and 26): fourteen states, what they hold, what is kept. */
final class ActionBoundaries {
    private ActionBoundaries() {
    }

    static void run() {
        Checks.holds("Promise 16, undo", "An object is used for at most 512 calls after it has been made;",
                ActionBoundaries::manyCalls);
        Checks.holds("Promise 12, board", "rows: 3 to 7", ActionBoundaries::rows);
        Checks.holds("Promise 12, board", "Lays out another board: so many rows, empty, the colour 0 has the turn, no moves, no"
                + " captives; setting 0 stays.", ActionBoundaries::anotherBoard);
        Checks.holds("Promise 12, board", "Returns its points, how many.", ActionBoundaries::points);
        Checks.holds("Promise 15, set", "v: 0 or 1", ActionBoundaries::values);
        Checks.holds("Promise 15, set", "Returns the previous one.", ActionBoundaries::previousValue);
        remembering();
        slots();
    }

    private static void remembering() {
        Checks.holds("Promise 16, undo", "Each call of one of them that does not throw an exception is an action, also if"
                + " nothing becomes different", ActionBoundaries::eachCall);
        Checks.holds("Promise 16, undo", "(undo is none).", ActionBoundaries::undoIsNone);
        Checks.holds("Promise 16, undo", "Before each action, the state is remembered.", ActionBoundaries::stateBefore);
        Checks.holds("Promise 16, undo", "the state, which consists of everything but the text and the save slots.",
                ActionBoundaries::textAndSlotsStay);
        Checks.holds("Promise 16, undo", "At most 14 states are remembered;", ActionBoundaries::fourteen);
        Checks.holds("Promise 16, undo", "when one more is remembered, the oldest one is forgotten.",
                ActionBoundaries::oldestIsForgotten);
        Checks.holds("Promise 16, undo", "load and restore are not actions.", ActionBoundaries::noActions);
        Checks.holds("Promise 16, undo", "Takes back the last action that is remembered.", ActionBoundaries::lastAction);
        Checks.holds("Promise 16, undo", "Returns how many states are still remembered.", ActionBoundaries::stillRemembered);
        Checks.holds("Promise 16, undo", "Throws IllegalStateException if none is remembered", ActionBoundaries::noneRemembered);
    }

    private static void slots() {
        Checks.holds("Promise 25, save", "slot: 0 or 1", ActionBoundaries::saveSlots);
        Checks.holds("Promise 25, save", "Stores the present state in a save slot.", ActionBoundaries::presentState);
        Checks.holds("Promise 25, save", "Returns the moves so far.", ActionBoundaries::movesSoFar);
        Checks.holds("Promise 26, restore", "slot: 0 or 1", ActionBoundaries::restoreSlots);
        Checks.holds("Promise 26, restore", "Replaces the state by the one in a save slot,", ActionBoundaries::wholeState);
        Checks.holds("Promise 26, restore", "and forgets all remembered states.", ActionBoundaries::restoreForgets);
        Checks.holds("Promise 26, restore", "The save slot keeps it.", ActionBoundaries::slotKeeps);
        Checks.holds("Promise 26, restore", "Returns the moves so far then.", ActionBoundaries::movesThen);
        Checks.holds("Promise 26, restore", "Throws IllegalStateException if nothing has been saved in it since the last load",
                ActionBoundaries::nothingSaved);
    }

    private static void manyCalls() {
        CornerStones x = new CornerStones();
        for (int i = 0; i < 511; i++) {
            int v = i % 2;
            Checks.due("set, call " + (i + 1), () -> x.set(v), i == 0 ? 0 : 1 - v);
        }
        Checks.due("the call 512", () -> x.undo(), 13);
        CornerStones y = new CornerStones();
        for (int i = 0; i < 511; i++) {
            int rows = 3 + i % 5;
            Checks.due("board, call " + (i + 1), () -> y.board(rows), rows * rows);
        }
        Checks.due("the call 512", () -> y.about(0), 3);
    }

    private static void rows() {
        CornerStones x = new CornerStones();
        for (int rows : new int[] {Integer.MIN_VALUE, -7, -3, -1, 0, 1, 2, 8, 9, 49, Integer.MAX_VALUE}) {
            Checks.thrown("board " + rows, () -> x.board(rows), Checks.ARGUMENT);
        }
        Checks.due("the rows stay", () -> x.about(0), 5);
        Checks.due("the least", () -> x.board(3), 9);
        Checks.due("the most", () -> x.board(7), 49);
    }

    private static CornerStones busy(int setting) {
        CornerStones x = new CornerStones();
        x.set(setting);
        Boards.draw(x, 0, ".XO..", "XO.O.", ".XO..", ".....", "OX...");
        x.play(7);
        x.pass();
        x.pass();
        x.set(0);
        x.play(6);
        x.set(setting);
        x.pass();
        x.pass();
        x.pass();
        return x;
    }

    private static void anotherBoard() {
        for (int setting = 0; setting < 2; setting++) {
            for (int rows = 3; rows <= 7; rows++) {
                CornerStones x = busy(setting);
                int r = rows;
                int s = setting;
                Checks.due("captives before", () -> x.colour(0, 1) + x.colour(1, 1), 2);
                Checks.due("the turn before", () -> x.about(2), 1);
                x.board(r);
                Checks.due("so many rows", () -> x.about(0), r);
                Checks.due("no stones of 0", () -> x.stones(0), 0);
                Checks.due("no stones of 1", () -> x.stones(1), 0);
                Checks.due("no moves", () -> x.about(1), 0);
                Checks.due("the colour 0 has the turn", () -> x.about(2), 0);
                Checks.due("no passes", () -> x.about(3), 0);
                Checks.due("the latest two moves were none", () -> x.about(4), 0);
                Checks.due("no captives of 0", () -> x.colour(0, 1), 0);
                Checks.due("no captives of 1", () -> x.colour(1, 1), 0);
                Checks.due("setting 0 stays", () -> x.about(7), s);
            }
        }
        CornerStones full = new CornerStones();
        Boards.passTo(full, 120);
        full.board(5);
        Checks.due("there are 120 moves again", () -> full.pass(), 1);
    }

    private static void points() {
        CornerStones x = new CornerStones();
        int[] want = {9, 16, 25, 36, 49};
        for (int i = 0; i < want.length; i++) {
            int rows = 3 + i;
            Checks.due("board " + rows, () -> x.board(rows), want[rows - 3]);
            Checks.due("as many rows again", () -> x.board(rows), want[rows - 3]);
        }
    }

    private static void values() {
        CornerStones x = new CornerStones();
        for (int v : new int[] {Integer.MIN_VALUE, -1, 2, 3, 256, Integer.MAX_VALUE}) {
            Checks.thrown("set " + v, () -> x.set(v), Checks.ARGUMENT);
            Checks.due("it stays", () -> x.about(7), 0);
        }
        x.set(1);
        Checks.due("the most", () -> x.about(7), 1);
        x.set(0);
        Checks.due("the least", () -> x.about(7), 0);
    }

    private static void previousValue() {
        CornerStones x = new CornerStones();
        Checks.due("0 at first", () -> x.set(0), 0);
        Checks.due("0 again", () -> x.set(1), 0);
        Checks.due("1", () -> x.set(1), 1);
        Checks.due("1 again", () -> x.set(0), 1);
        Checks.due("0 once more", () -> x.set(1), 0);
        x.undo();
        Checks.due("behind undo", () -> x.set(1), 0);
        CornerStones full = new CornerStones();
        Boards.passTo(full, 120);
        Checks.due("with 120 moves", () -> full.set(1), 0);
    }

    private static void eachCall() {
        CornerStones x = new CornerStones();
        x.set(0);
        Checks.due("set to the same", () -> x.undo(), 0);
        x.board(5);
        Checks.due("the same board", () -> x.undo(), 0);
        x.board(5);
        x.set(0);
        x.pass();
        x.play(0);
        Checks.due("four of them", () -> x.undo(), 3);
        Checks.thrown("a stone that is not laid", () -> x.play(-1), Checks.INDEX);
        Checks.thrown("a board that there is not", () -> x.board(2), Checks.ARGUMENT);
        Checks.thrown("a value that there is not", () -> x.set(2), Checks.ARGUMENT);
        x.play(1);
        Checks.thrown("a point that is not empty", () -> x.play(1), Checks.STATE);
        Checks.due("what throws is none", () -> x.undo(), 3);
        CornerStones full = new CornerStones();
        Boards.passTo(full, 120);
        Checks.thrown("a pass too many", () -> full.pass(), Checks.STATE);
        Checks.due("is none either", () -> full.undo(), 13);
        Checks.due("it takes back a pass", () -> full.about(1), 119);
    }

    private static void undoIsNone() {
        CornerStones x = new CornerStones();
        x.play(0);
        x.play(1);
        x.play(2);
        Checks.due("the third", () -> x.undo(), 2);
        Checks.due("the second", () -> x.undo(), 1);
        Checks.due("the first", () -> x.undo(), 0);
        Checks.due("nothing is there", () -> x.about(1), 0);
        Checks.thrown("undo is not taken back", () -> x.undo(), Checks.STATE);
    }

    private static void stateBefore() {
        CornerStones x = busy(1);
        CornerStones y = busy(1);
        long zeros = x.stones(0);
        long ones = x.stones(1);
        for (int kind = 0; kind < 4; kind++) {
            act(x, kind);
            Checks.due("it became different", () -> x.about(1) == y.about(1) && x.about(7) == y.about(7) ? 1 : 0, 0);
            x.undo();
            Checks.due("stones of 0", () -> x.stones(0), zeros);
            Checks.due("stones of 1", () -> x.stones(1), ones);
            for (int i = 0; i < 8; i++) {
                int what = i;
                Checks.due("about " + what, () -> x.about(what), y.about(what));
            }
            Checks.due("captives of 0", () -> x.colour(0, 1), y.colour(0, 1));
            Checks.due("captives of 1", () -> x.colour(1, 1), y.colour(1, 1));
            Checks.due("what must not come", () -> x.choices(), y.choices());
        }
    }

    private static void act(CornerStones x, int kind) {
        switch (kind) {
            case 0: x.board(7); break;
            case 1: x.play(24); break;
            case 2: x.pass(); break;
            default: x.set(0); break;
        }
    }

    private static void textAndSlotsStay() {
        CornerStones x = new CornerStones();
        Boards.write(x, "B3");
        x.pass();
        x.append('s');
        x.save(0);
        x.pass();
        x.save(1);
        x.pass();
        x.undo();
        x.undo();
        x.undo();
        Checks.due("the slot 0", () -> x.restore(0), 1);
        Checks.due("the slot 1", () -> x.restore(1), 2);
        Checks.due("the text", () -> x.clearText(), 3);
        CornerStones y = new CornerStones();
        Boards.write(y, "B3");
        y.save(0);
        y.append('x');
        y.restore(0);
        Checks.due("restore keeps the text", () -> y.errorPosition(), 2);
        Checks.thrown("and the other slot", () -> y.restore(1), Checks.STATE);
    }

    /** The move with this number: the colour 0 lays its stones in a row, the other one passes. */
    private static void move(CornerStones x, int number) {
        if (number % 2 == 0) {
            x.play(number / 2);
        } else {
            x.pass();
        }
    }

    private static long stonesBehind(int moves) {
        return (1L << (moves + 1) / 2) - 1;
    }

    /** So many moves on 7 rows, then undo until there is nothing more. */
    private static void undoAll(int actions, int taken) {
        CornerStones x = new CornerStones();
        Boards.write(x, "B7");
        x.load();
        for (int i = 0; i < actions; i++) {
            move(x, i);
        }
        for (int i = 1; i <= taken; i++) {
            int n = i;
            Checks.due("undo " + n + " of " + actions, () -> x.undo(), taken - n);
            Checks.due("moves then", () -> x.about(1), actions - n);
            Checks.due("stones then", () -> x.stones(0), stonesBehind(actions - n));
        }
        Checks.thrown("one more than " + taken + " of " + actions, () -> x.undo(), Checks.STATE);
        Checks.due("what is left", () -> x.about(1), actions - taken);
    }

    private static void fourteen() {
        undoAll(0, 0);
        undoAll(1, 1);
        undoAll(13, 13);
        undoAll(14, 14);
        undoAll(15, 14);
    }

    private static void oldestIsForgotten() {
        for (int actions : new int[] {15, 16, 27, 28, 29, 30, 41, 42, 43}) {
            undoAll(actions, 14);
        }
        CornerStones x = new CornerStones();
        x.board(7);
        for (int i = 0; i < 20; i++) {
            move(x, i);
        }
        for (int i = 0; i < 7; i++) {
            x.undo();
        }
        Checks.due("seven are left", () -> x.about(1), 13);
        for (int i = 13; i < 23; i++) {
            move(x, i);
        }
        Checks.due("seven and ten are too many", () -> x.undo(), 13);
        for (int i = 0; i < 13; i++) {
            x.undo();
        }
        Checks.due("the oldest that is left", () -> x.about(1), 9);
        Checks.due("its stones", () -> x.stones(0), stonesBehind(9));
        Checks.thrown("no more", () -> x.undo(), Checks.STATE);
        x.pass();
        Checks.due("and the ring goes on", () -> x.undo(), 0);
    }

    private static void noActions() {
        CornerStones x = new CornerStones();
        Boards.write(x, "B3p");
        x.load();
        Checks.thrown("load", () -> x.undo(), Checks.STATE);
        x.save(0);
        Checks.thrown("save", () -> x.undo(), Checks.STATE);
        x.restore(0);
        Checks.thrown("restore", () -> x.undo(), Checks.STATE);
        x.pass();
        x.save(1);
        x.runScript(1, 2000);
        x.simulate(0, 1);
        Checks.due("nor the questions", () -> x.undo(), 0);
    }

    private static void lastAction() {
        CornerStones x = new CornerStones();
        x.play(3);
        x.set(1);
        x.board(3);
        x.pass();
        x.undo();
        Checks.due("the pass", () -> x.about(3), 0);
        Checks.due("the board is still another one", () -> x.about(0), 3);
        x.undo();
        Checks.due("the board", () -> x.about(0), 5);
        Checks.due("its stones", () -> x.stones(0), 8);
        Checks.due("the setting is still 1", () -> x.about(7), 1);
        x.undo();
        Checks.due("the setting", () -> x.about(7), 0);
        x.play(4);
        x.undo();
        Checks.due("an action behind undo", () -> x.stones(1), 0);
        x.undo();
        Checks.due("the first", () -> x.stones(0), 0);
    }

    private static void stillRemembered() {
        CornerStones x = new CornerStones();
        for (int i = 0; i < 14; i++) {
            x.pass();
        }
        for (int left = 13; left >= 0; left--) {
            int n = left;
            Checks.due("of fourteen", () -> x.undo(), n);
        }
        x.pass();
        Checks.due("the only one", () -> x.undo(), 0);
        x.pass();
        x.pass();
        Checks.due("one of two", () -> x.undo(), 1);
        for (int i = 0; i < 100; i++) {
            x.pass();
        }
        Checks.due("of the most", () -> x.undo(), 13);
    }

    private static void noneRemembered() {
        CornerStones x = new CornerStones();
        Checks.thrown("a new object", () -> x.undo(), Checks.STATE);
        x.pass();
        x.undo();
        Checks.thrown("nothing is left", () -> x.undo(), Checks.STATE);
        Checks.thrown("and again", () -> x.undo(), Checks.STATE);
        for (int i = 0; i < 16; i++) {
            x.pass();
        }
        for (int i = 0; i < 14; i++) {
            x.undo();
        }
        Checks.thrown("behind fourteen", () -> x.undo(), Checks.STATE);
        Checks.due("two are not taken back", () -> x.about(1), 2);
        x.pass();
        x.save(0);
        x.restore(0);
        Checks.thrown("behind restore", () -> x.undo(), Checks.STATE);
    }

    private static void saveSlots() {
        CornerStones x = new CornerStones();
        for (int slot : new int[] {Integer.MIN_VALUE, -1, 2, 3, Integer.MAX_VALUE}) {
            Checks.thrown("save " + slot, () -> x.save(slot), Checks.INDEX);
        }
        Checks.thrown("nothing was saved in 0", () -> x.restore(0), Checks.STATE);
        Checks.thrown("nor in 1", () -> x.restore(1), Checks.STATE);
        x.pass();
        Checks.due("the first", () -> x.save(0), 1);
        x.pass();
        Checks.due("the last", () -> x.save(1), 2);
    }

    private static void restoreSlots() {
        CornerStones x = new CornerStones();
        x.save(0);
        x.pass();
        x.save(1);
        for (int slot : new int[] {Integer.MIN_VALUE, -1, 2, 3, Integer.MAX_VALUE}) {
            Checks.thrown("restore " + slot, () -> x.restore(slot), Checks.INDEX);
        }
        Checks.due("the state stays", () -> x.about(1), 1);
        Checks.due("the first", () -> x.restore(0), 0);
        Checks.due("the last", () -> x.restore(1), 1);
    }

    private static void presentState() {
        CornerStones x = busy(1);
        long ones = x.stones(1);
        int moves = x.about(1);
        x.save(0);
        x.play(24);
        x.board(3);
        x.set(0);
        x.save(1);
        x.play(4);
        Checks.due("that at the first save", () -> x.restore(0), moves);
        Checks.due("its stones", () -> x.stones(1), ones);
        Checks.due("its setting", () -> x.about(7), 1);
        Checks.due("its captives", () -> x.colour(1, 1), 1);
        Checks.due("that at the second save", () -> x.restore(1), 0);
        Checks.due("its rows", () -> x.about(0), 3);
        Checks.due("its stones", () -> x.stones(0), 0);
        x.play(0);
        x.save(0);
        x.restore(1);
        Checks.due("what is saved later replaces it", () -> x.restore(0), 1);
    }

    private static void movesSoFar() {
        CornerStones x = new CornerStones();
        Checks.due("none", () -> x.save(0), 0);
        x.play(0);
        x.pass();
        Checks.due("stones and passes", () -> x.save(0), 2);
        Boards.passTo(x, 119);
        Checks.due("one short of the most", () -> x.save(1), 119);
        x.pass();
        Checks.due("the most", () -> x.save(1), 120);
        x.board(3);
        Checks.due("on another board", () -> x.save(0), 0);
    }

    private static void wholeState() {
        CornerStones x = busy(1);
        CornerStones y = busy(1);
        int choices = x.choices();
        x.save(1);
        x.board(7);
        x.set(0);
        x.play(0);
        x.restore(1);
        for (int i = 0; i < 8; i++) {
            int what = i;
            Checks.due("about " + what, () -> x.about(what), y.about(what));
        }
        for (int i = 0; i < 12; i++) {
            int what = i;
            Checks.due("colour " + what, () -> x.colour(what / 6, what % 6), y.colour(what / 6, what % 6));
        }
        Checks.due("what must not come", () -> x.choices(), choices);
        CornerStones full = new CornerStones();
        Boards.passTo(full, 120);
        full.save(0);
        full.board(7);
        full.restore(0);
        Checks.thrown("with 120 moves", () -> full.pass(), Checks.STATE);
        Checks.due("all of them passes", () -> full.about(3) + full.about(4), 121);
    }

    private static void restoreForgets() {
        CornerStones x = new CornerStones();
        for (int i = 0; i < 20; i++) {
            x.pass();
        }
        x.save(0);
        x.pass();
        x.restore(0);
        Checks.thrown("all of them", () -> x.undo(), Checks.STATE);
        for (int i = 0; i < 15; i++) {
            x.pass();
        }
        for (int left = 13; left >= 0; left--) {
            int n = left;
            Checks.due("fourteen again", () -> x.undo(), n);
            Checks.due("the moves", () -> x.about(1), 21 + n);
        }
        Checks.thrown("the fifteenth", () -> x.undo(), Checks.STATE);
        x.pass();
        Checks.thrown("a slot that there is not", () -> x.restore(2), Checks.INDEX);
        Checks.thrown("an empty slot", () -> x.restore(1), Checks.STATE);
        Checks.due("what throws forgets none", () -> x.undo(), 0);
    }

    private static void slotKeeps() {
        CornerStones x = new CornerStones();
        x.play(12);
        x.save(0);
        for (int i = 0; i < 3; i++) {
            Checks.due("again", () -> x.restore(0), 1);
            Checks.due("the stone", () -> x.stones(0), 1 << 12);
            x.play(0);
            x.set(1);
            Checks.due("and on from there", () -> x.about(1), 2);
        }
        x.board(3);
        Checks.due("whatever was done", () -> x.restore(0), 1);
        Checks.due("setting 0 of then", () -> x.about(7), 0);
    }

    private static void movesThen() {
        CornerStones x = new CornerStones();
        x.save(0);
        Boards.passTo(x, 120);
        x.save(1);
        Checks.due("none", () -> x.restore(0), 0);
        Checks.due("the most", () -> x.restore(1), 120);
        Checks.due("as about tells", () -> x.about(1), 120);
    }

    private static void nothingSaved() {
        CornerStones x = new CornerStones();
        Checks.thrown("a new object, 0", () -> x.restore(0), Checks.STATE);
        Checks.thrown("a new object, 1", () -> x.restore(1), Checks.STATE);
        x.save(1);
        Checks.thrown("only in the other one", () -> x.restore(0), Checks.STATE);
        Checks.due("that one", () -> x.restore(1), 0);
        Boards.write(x, "B9");
        Checks.thrown("a text that is no game", () -> x.load(), Checks.STATE);
        Checks.due("is no load", () -> x.restore(1), 0);
        Boards.write(x, "B3p");
        x.load();
        Checks.thrown("behind load", () -> x.restore(1), Checks.STATE);
        x.save(1);
        Checks.due("saved since", () -> x.restore(1), 1);
        Checks.thrown("the other one is still empty", () -> x.restore(0), Checks.STATE);
        x.load();
        Checks.thrown("behind another load", () -> x.restore(1), Checks.STATE);
    }
}
