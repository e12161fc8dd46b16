/** Boards drawn as text: X for stones of the colour 0, O for those of the colour 1, a point where it is empty. */
final class Boards {
    private Boards() {
    }

    /** Lays out the board that is drawn; then the colour has the turn. */
    static CornerStones drawn(int turn, String... rows) {
        CornerStones x = new CornerStones();
        draw(x, turn, rows);
        return x;
    }

    static void draw(CornerStones x, int turn, String... rows) {
        x.board(rows.length);
        for (int r = 0; r < rows.length; r++) {
            for (int c = 0; c < rows.length; c++) {
                char sign = rows[r].charAt(c);
                if (sign != '.') {
                    turnTo(x, sign == 'X' ? 0 : 1);
                    x.play(r * rows.length + c);
                }
            }
        }
        turnTo(x, turn);
        same(x, rows);
    }

    static void turnTo(CornerStones x, int turn) {
        if (x.about(2) != turn) {
            x.pass();
        }
    }

    /** Passes until there are so many moves. */
    static void passTo(CornerStones x, int moves) {
        for (int i = x.about(1); i < moves; i++) {
            x.pass();
        }
    }

    /** Checks that the board is as drawn. */
    static void same(CornerStones x, String... rows) {
        Checks.due("the rows", () -> x.about(0), rows.length);
        Checks.due("the stones of 0", () -> x.stones(0), signs('X', rows));
        Checks.due("the stones of 1", () -> x.stones(1), signs('O', rows));
    }

    /** The points with the sign, as a set. */
    static long signs(char sign, String... rows) {
        long found = 0;
        for (int r = 0; r < rows.length; r++) {
            for (int c = 0; c < rows.length; c++) {
                if (rows[r].charAt(c) == sign) {
                    found |= 1L << (r * rows.length + c);
                }
            }
        }
        return found;
    }

    static long set(int... points) {
        long set = 0;
        for (int k : points) {
            set |= 1L << k;
        }
        return set;
    }

    static void write(CornerStones x, String text) {
        x.clearText();
        for (int i = 0; i < text.length(); i++) {
            x.append(text.charAt(i));
        }
    }

    static CornerStones loaded(String text) {
        CornerStones x = new CornerStones();
        write(x, text);
        x.load();
        return x;
    }

    /** A ko: X takes at 7, and O may not take back at once. */
    static CornerStones ko(int setting) {
        CornerStones x = new CornerStones();
        x.set(setting);
        takeKo(x);
        return x;
    }

    static void takeKo(CornerStones x) {
        draw(x, 0, ".XO..", "XO.O.", ".XO..", ".....", ".....");
        x.play(7);
        same(x, ".XO..", "X.XO.", ".XO..", ".....", ".....");
    }

    /** All points but one have stones of the colour, and the other colour has the turn. */
    static CornerStones fullButOne(int rows, int colour, int empty) {
        CornerStones x = new CornerStones();
        x.board(rows);
        for (int k = 0; k < rows * rows; k++) {
            if (k != empty) {
                turnTo(x, colour);
                x.play(k);
            }
        }
        return x;
    }

    /** A board with these stones, the colour 0 laid first; null if it cannot be laid so. */
    static CornerStones laid(int rows, long zeros, long ones) {
        CornerStones x = new CornerStones();
        x.board(rows);
        for (int c = 0; c < 2; c++) {
            long stones = c == 0 ? zeros : ones;
            for (int k = 0; k < rows * rows; k++) {
                if ((stones >>> k & 1) != 0) {
                    turnTo(x, c);
                    if (x.why(k) != 0) {
                        return null;
                    }
                    x.play(k);
                }
            }
        }
        return x.stones(0) == zeros && x.stones(1) == ones ? x : null;
    }

    /** The points at these steps (rows and places) from the point that are on the board. */
    private static long at(int rows, int k, int[][] steps) {
        long found = 0;
        for (int[] step : steps) {
            int r = k / rows + step[0];
            int c = k % rows + step[1];
            if (r >= 0 && r < rows && c >= 0 && c < rows) {
                found |= 1L << (r * rows + c);
            }
        }
        return found;
    }

    static long neighbours(int rows, int k) {
        return at(rows, k, new int[][] {{-1, 0}, {1, 0}, {0, -1}, {0, 1}});
    }

    static long corners(int rows, int k) {
        return at(rows, k, new int[][] {{-1, -1}, {-1, 1}, {1, -1}, {1, 1}});
    }
}
