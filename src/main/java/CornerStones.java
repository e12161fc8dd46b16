/** Stones that are laid by turns on a small board, as in go. The project's document says what each call answers. */
public final class CornerStones {
    public static final int NONE = -1;

    private static final int LEAST_ROWS = 3;
    private static final int MOST_ROWS = 7;
    private static final int FIRST_ROWS = 5;
    private static final int MOST_POINTS = 49;
    private static final int MOST_MOVES = 120;
    private static final int MOST_CHARACTERS = 120;
    private static final int MOST_REMEMBERED = 14;
    private static final int MOST_COMMANDS = 4;
    private static final int MOST_TURNS = 100;
    private static final int LADDER_STONES = 12;

    private static final int MAY_BE_LAID = 0;
    private static final int NOT_EMPTY = 1;
    private static final int NO_LIBERTY = 2;
    private static final int POSITION_AGAIN = 3;
    private static final int NO_MOVES_LEFT = 4;

    private final GameText text;
    private final Game now;
    private final Game copy;
    private final Memory memory;
    private final Slot slot0;
    private final Slot slot1;

    public CornerStones() {
        Grid grid = new Grid(FIRST_ROWS);
        text = new GameText();
        now = new Game(grid);
        copy = new Game(grid);
        memory = new Memory(grid);
        slot0 = new Slot(grid);
        slot1 = new Slot(grid);
    }

    // ---- text

    public int append(int c) throws IllegalArgumentException, IllegalStateException {
        if (c < 0 || c > 255) {
            throw new IllegalArgumentException("no such character");
        }
        if (text.isFull()) {
            throw new IllegalStateException("the text is full");
        }
        return text.add((char) c);
    }

    public int clearText() {
        return text.empty();
    }

    public int errorPosition() {
        return text.firstError();
    }

    public int load() throws IllegalStateException {
        if (text.firstError() != NONE) {
            throw new IllegalStateException("the text is not a game");
        }
        now.layOut(text.rows());
        now.setting = text.setting();
        int leftOut = 0;
        for (int i = text.firstMove(); i < text.length; i++) {
            boolean isPass = text.isPassAt(i);
            if (!(isPass ? now.passIfAllowed() : now.layIfAllowed(text.pointAt(i)))) {
                leftOut++;
            }
            if (!isPass) {
                i++;
            }
        }
        memory.forgetAll();
        slot0.used = false;
        slot1.used = false;
        return leftOut;
    }

    // ---- what there is

    public int about(int what) throws IllegalArgumentException {
        switch (what) {
            case 0:
                return now.grid.rows;
            case 1:
                return now.moves;
            case 2:
                return now.turn();
            case 3:
                return now.passes;
            case 4:
                return now.passesInRow >= 2 ? 1 : 0;
            case 5:
                return now.groupsOf(0) + now.groupsOf(1);
            case 6:
                return now.groupsWithOneLiberty();
            case 7:
                return now.setting;
            default:
                throw new IllegalArgumentException("what is not 0 to 7");
        }
    }

    public long stones(int c) throws IndexOutOfBoundsException {
        if (!isColour(c)) {
            throw new IndexOutOfBoundsException("no such colour");
        }
        return now.stonesOf(c);
    }

    public int colour(int c, int what) throws IndexOutOfBoundsException, IllegalArgumentException {
        if (!isColour(c)) {
            throw new IndexOutOfBoundsException("no such colour");
        }
        switch (what) {
            case 0:
                return Long.bitCount(now.stonesOf(c));
            case 1:
                return now.captivesOf(c);
            case 2:
                return now.areaOf(c);
            case 3:
                return Long.bitCount(now.trueEyes(c));
            case 4:
                return Long.bitCount(now.falseEyes(c));
            case 5:
                return now.groupsOf(c);
            default:
                throw new IllegalArgumentException("what is not 0 to 5");
        }
    }

    public int point(int k, int what) throws IndexOutOfBoundsException, IllegalArgumentException {
        if (!now.grid.has(k)) {
            throw new IndexOutOfBoundsException("no such point");
        }
        switch (what) {
            case 0:
                return now.colourAt(k);
            case 1:
                return Long.bitCount(now.groupAt(k));
            case 2:
                return Long.bitCount(now.libertiesAt(k));
            case 3:
                return now.eyeAt(k);
            case 4:
                return Long.bitCount(now.partAt(k));
            case 5:
                return now.trueEyesAt(k);
            default:
                throw new IllegalArgumentException("what is not 0 to 5");
        }
    }

    public long group(int k, int what) throws IndexOutOfBoundsException, IllegalArgumentException {
        if (!now.grid.has(k)) {
            throw new IndexOutOfBoundsException("no such point");
        }
        if (what != 0 && what != 1) {
            throw new IllegalArgumentException("what is neither 0 nor 1");
        }
        return what == 0 ? now.groupAt(k) : now.libertiesAt(k);
    }

    public int why(int k) throws IndexOutOfBoundsException {
        if (!now.grid.has(k)) {
            throw new IndexOutOfBoundsException("no such point");
        }
        return now.reasonAt(k);
    }

    // ---- actions

    public int board(int rows) throws IllegalArgumentException {
        if (rows < LEAST_ROWS || rows > MOST_ROWS) {
            throw new IllegalArgumentException("rows is not 3 to 7");
        }
        memory.remember(now);
        now.layOut(rows);
        return now.grid.points;
    }

    public int play(int k) throws IndexOutOfBoundsException, IllegalStateException {
        if (!now.grid.has(k)) {
            throw new IndexOutOfBoundsException("no such point");
        }
        if (now.reasonAt(k) != MAY_BE_LAID) {
            throw new IllegalStateException("the stone may not be laid");
        }
        memory.remember(now);
        return now.lay(k);
    }

    public int pass() throws IllegalStateException {
        if (now.moves >= MOST_MOVES) {
            throw new IllegalStateException("there are 120 moves");
        }
        memory.remember(now);
        now.passIfAllowed();
        return now.passes;
    }

    public int set(int v) throws IllegalArgumentException {
        if (v != 0 && v != 1) {
            throw new IllegalArgumentException("v is neither 0 nor 1");
        }
        memory.remember(now);
        int previous = now.setting;
        now.setting = v;
        return previous;
    }

    public int undo() throws IllegalStateException {
        if (memory.count <= 0) {
            throw new IllegalStateException("no state is remembered");
        }
        return memory.takeBackInto(now);
    }

    // ---- what would be; these and all following methods up to the save slots change nothing

    public int ifPlayed(int k, int what) throws IndexOutOfBoundsException, IllegalArgumentException {
        if (!now.grid.has(k)) {
            throw new IndexOutOfBoundsException("no such point");
        }
        if (what < 0 || what > 3) {
            throw new IllegalArgumentException("what is not 0 to 3");
        }
        return now.reasonAt(k) == MAY_BE_LAID ? now.effectOf(k, what) : NONE;
    }

    public int bestTake() {
        int best = NONE;
        int most = 0;
        for (int k = 0; k < now.grid.points; k++) {
            int taken = now.reasonAt(k) == MAY_BE_LAID ? now.effectOf(k, 0) : 0;
            if (taken > most) {
                best = k;
                most = taken;
            }
        }
        return best;
    }

    public int choices() {
        int count = 0;
        for (int k = 0; k < now.grid.points; k++) {
            if (now.reasonAt(k) == MAY_BE_LAID) {
                count++;
            }
        }
        return count;
    }

    public int ladder(int k, int what) throws IndexOutOfBoundsException, IllegalArgumentException {
        if (!now.grid.has(k)) {
            throw new IndexOutOfBoundsException("no such point");
        }
        if (what != 0 && what != 1) {
            throw new IllegalArgumentException("what is neither 0 nor 1");
        }
        int c = now.colourAt(k);
        if (c == NONE) {
            return NONE;
        }
        boolean works = what == 0
                ? Ladder.firstStone(now.grid, now.stonesOf(1 - c), now.stonesOf(c), 1L << k, LADDER_STONES) != 0
                : Ladder.holdsOwner(now.grid, now.stonesOf(1 - c), now.stonesOf(c), 1L << k, LADDER_STONES);
        return works ? 1 : 0;
    }

    public int chase(int k) throws IndexOutOfBoundsException {
        if (!now.grid.has(k)) {
            throw new IndexOutOfBoundsException("no such point");
        }
        int c = now.colourAt(k);
        if (c == NONE) {
            return NONE;
        }
        long first = Ladder.firstStone(now.grid, now.stonesOf(1 - c), now.stonesOf(c), 1L << k, LADDER_STONES);
        return first == 0 ? NONE : Long.bitCount(first - 1);
    }

    public int lead() {
        return now.areaOf(0) - now.areaOf(1);
    }

    // ---- scripts, simulations

    public int runScript(int n, long script) throws IllegalArgumentException {
        if (n < 1 || n > MOST_COMMANDS) {
            throw new IllegalArgumentException("n is not 1 to 4");
        }
        if (script < 0 || commandsIn(script) > n) {
            throw new IllegalArgumentException("the script is negative or too long");
        }
        copy.copyFrom(now);
        for (int i = 0; i < n; i++) {
            if (!Script.succeeds(copy, Script.commandFromEnd(script, n - 1 - i))) {
                return i;
            }
        }
        return NONE;
    }

    public int simulate(long seed, int m) throws IllegalArgumentException {
        if (m < 1 || m > MOST_TURNS) {
            throw new IllegalArgumentException("m is not 1 to 100");
        }
        copy.copyFrom(now);
        int points = copy.grid.points;
        long x = seed;
        for (int i = 0; i < m; i++) {
            x = x * 6364136223846793005L + 1442695040888963407L;
            int r = (int) (x >>> 33);
            if (r % 16 == 0) {
                copy.passIfAllowed();
            } else if (points > 0) {
                copy.layIfAllowed(r / 16 % points);
            }
        }
        int captives = copy.captivesOf(0) + copy.captivesOf(1);
        int groups = copy.groupsOf(0) + copy.groupsOf(1);
        return 10000 * captives + 100 * groups + Long.bitCount(copy.stonesOf(0));
    }

    // ---- save slots

    public int save(int slot) throws IndexOutOfBoundsException {
        if (slot != 0 && slot != 1) {
            throw new IndexOutOfBoundsException("no such save slot");
        }
        Slot chosen = slot == 0 ? slot0 : slot1;
        chosen.kept.copyFrom(now);
        chosen.used = true;
        return now.moves;
    }

    public int restore(int slot) throws IndexOutOfBoundsException, IllegalStateException {
        if (slot != 0 && slot != 1) {
            throw new IndexOutOfBoundsException("no such save slot");
        }
        Slot chosen = slot == 0 ? slot0 : slot1;
        if (!chosen.used) {
            throw new IllegalStateException("nothing has been saved in it");
        }
        now.copyFrom(chosen.kept);
        memory.forgetAll();
        return now.moves;
    }

    private static boolean isColour(int c) {
        return c == 0 || c == 1;
    }

    /** How many groups of four digits the script needs, at least one. */
    private static int commandsIn(long script) {
        int count = 1;
        long rest = script / 10000;
        for (int i = 0; i < 5 && rest != 0; i++) {
            rest = rest / 10000;
            count++;
        }
        return count;
    }

    /** The points of a board, and what can be told of sets of them. */
    private static final class Grid {
        final int rows;
        final int points;
        final long all;
        // a step to the right never ends in the first place of a row, one to the left never in the last
        private final long notFirst;
        private final long notLast;

        Grid(int rows) {
            long firsts = 0;
            for (int r = 0; r < rows && r < MOST_ROWS; r++) {
                firsts |= 1L << (r * rows);
            }
            this.rows = rows;
            this.points = rows * rows;
            this.all = (1L << (rows * rows)) - 1;
            this.notFirst = all & ~firsts;
            this.notLast = all & ~(firsts << (rows - 1));
        }

        boolean has(int k) {
            return k >= 0 && k < points;
        }

        /** The neighbours of the points of the set. */
        long around(long set) {
            return ((set << 1) & notFirst) | ((set >>> 1) & notLast) | ((set << rows | set >>> rows) & all);
        }

        /** The corners of the points of the set. */
        long across(long set) {
            long aboveAndBelow = (set << rows | set >>> rows) & all;
            return ((aboveAndBelow << 1) & notFirst) | ((aboveAndBelow >>> 1) & notLast);
        }

        /** What is reached from the start, from neighbour to neighbour, by points of the set alone. */
        long connected(long set, long start) {
            long found = start & set;
            for (int i = 0; i < MOST_POINTS; i++) {
                long more = found | (around(found) & set);
                if (more == found) {
                    return found;
                }
                found = more;
            }
            return found;
        }

        /** The liberties of the group of own stones that the stone is in. */
        long liberties(long own, long other, long stone) {
            return around(connected(own, stone)) & all & ~(own | other);
        }

        /** The stones of the other colour that are taken if this one of the own colour is laid. */
        long taken(long own, long other, long stone) {
            long free = all & ~(own | other | stone);
            return other & ~connected(other, around(free));
        }

        int groups(long stones) {
            int count = 0;
            long rest = stones;
            for (int i = 0; i < MOST_POINTS && rest != 0; i++) {
                rest &= ~connected(stones, rest & -rest);
                count++;
            }
            return count;
        }

        int groupsWithOneLiberty(long own, long other) {
            int count = 0;
            long rest = own;
            for (int i = 0; i < MOST_POINTS && rest != 0; i++) {
                long stone = rest & -rest;
                if (Long.bitCount(liberties(own, other, stone)) == 1) {
                    count++;
                }
                rest &= ~connected(own, stone);
            }
            return count;
        }

        /** The points of the parts that are next to own stones, and to no others. */
        long enclosed(long own, long other) {
            long free = all & ~(own | other);
            return connected(free, around(own)) & ~connected(free, around(other));
        }

        long eyes(long own, long other) {
            return all & ~(own | other) & ~around(all & ~own);
        }

        /** Those of the eyes that are false, the other colour having these stones. */
        long falseAmong(long eyes, long other) {
            long found = 0;
            long rest = eyes;
            for (int i = 0; i < MOST_POINTS && rest != 0; i++) {
                long eye = rest & -rest;
                long corners = across(eye);
                int limit = Long.bitCount(corners) < 4 ? 1 : 2;
                if (Long.bitCount(corners & other) >= limit) {
                    found |= eye;
                }
                rest ^= eye;
            }
            return found;
        }
    }

    /** Whether a group is chased until it is taken; a stone of it stands for the group. */
    private static final class Ladder {
        private Ladder() {
        }

        /** The lowest liberty where the chaser, who has the turn, makes the ladder work; 0 if there is none. */
        private static long firstStone(Grid grid, long chaser, long owner, long stone, int d) {
            long rest = grid.liberties(owner, chaser, stone);
            int count = Long.bitCount(rest);
            if (d <= 0 || count > 2) {
                return 0;
            }
            for (int i = 0; i < count; i++) {
                long at = rest & -rest;
                long left = owner & ~grid.taken(chaser, owner, at);
                boolean mayLay = grid.liberties(chaser | at, left, at) != 0;
                if (mayLay && (count == 1 || holdsOwner(grid, chaser | at, left, stone, d - 1))) {
                    return at;
                }
                rest ^= at;
            }
            return 0;
        }

        /** Whether the ladder works if the owner has the turn. */
        private static boolean holdsOwner(Grid grid, long chaser, long owner, long stone, int d) {
            long at = grid.liberties(owner, chaser, stone);
            if (Long.bitCount(at) != 1) {
                return false;
            }
            long left = chaser & ~grid.taken(owner, chaser, at);
            long then = grid.liberties(owner | at, left, at);
            if (then == 0) {
                return true;
            }
            // with three liberties or more there is no first stone, so this is an escape
            return firstStone(grid, left, owner | at, at, d) != 0;
        }
    }

    /** A state: the board, whose turn it is, and every position that there was. */
    private static final class Game {
        private final long[] before0;
        private final long[] before1;
        private Grid grid;
        private int setting;
        private int moves;
        private int passes;
        private int passesInRow;
        private long stones0;
        private long stones1;
        private int captives0;
        private int captives1;

        Game(Grid grid) {
            this.before0 = new long[MOST_MOVES + 1];
            this.before1 = new long[MOST_MOVES + 1];
            this.grid = grid;
        }

        void layOut(int rows) {
            grid = new Grid(rows);
            moves = 0;
            passes = 0;
            passesInRow = 0;
            stones0 = 0;
            stones1 = 0;
            captives0 = 0;
            captives1 = 0;
            keepPosition();
        }

        void copyFrom(Game other) {
            grid = other.grid;
            setting = other.setting;
            moves = other.moves;
            passes = other.passes;
            passesInRow = other.passesInRow;
            stones0 = other.stones0;
            stones1 = other.stones1;
            captives0 = other.captives0;
            captives1 = other.captives1;
            // both have rows of the same length; what lies behind the moves is never read
            for (int i = 0; i <= moves && i < before0.length && i < other.before0.length; i++) {
                before0[i] = other.before0[i];
            }
            for (int i = 0; i <= moves && i < before1.length && i < other.before1.length; i++) {
                before1[i] = other.before1[i];
            }
        }

        private void keepPosition() {
            if (moves >= 0 && moves < before0.length && moves < before1.length) {
                before0[moves] = stones0;
                before1[moves] = stones1;
            }
        }

        int turn() {
            return moves & 1;
        }

        long stonesOf(int c) {
            return c == 0 ? stones0 : stones1;
        }

        int captivesOf(int c) {
            return c == 0 ? captives0 : captives1;
        }

        int groupsOf(int c) {
            return grid.groups(stonesOf(c));
        }

        int groupsWithOneLiberty() {
            return grid.groupsWithOneLiberty(stones0, stones1) + grid.groupsWithOneLiberty(stones1, stones0);
        }

        int areaOf(int c) {
            return Long.bitCount(stonesOf(c)) + Long.bitCount(grid.enclosed(stonesOf(c), stonesOf(1 - c)));
        }

        long falseEyes(int c) {
            return grid.falseAmong(grid.eyes(stonesOf(c), stonesOf(1 - c)), stonesOf(1 - c));
        }

        long trueEyes(int c) {
            long eyes = grid.eyes(stonesOf(c), stonesOf(1 - c));
            return eyes & ~grid.falseAmong(eyes, stonesOf(1 - c));
        }

        int colourAt(int k) {
            long at = 1L << k;
            if ((stones0 & at) != 0) {
                return 0;
            }
            return (stones1 & at) != 0 ? 1 : NONE;
        }

        long groupAt(int k) {
            int c = colourAt(k);
            return c == NONE ? 0 : grid.connected(stonesOf(c), 1L << k);
        }

        long libertiesAt(int k) {
            int c = colourAt(k);
            return c == NONE ? 0 : grid.liberties(stonesOf(c), stonesOf(1 - c), 1L << k);
        }

        long partAt(int k) {
            return grid.connected(grid.all & ~(stones0 | stones1), 1L << k);
        }

        /** 0 if the point is no eye, 1 if it is a false one, 2 if it is a true one. */
        int eyeAt(int k) {
            long at = 1L << k;
            if (((falseEyes(0) | falseEyes(1)) & at) != 0) {
                return 1;
            }
            return ((trueEyes(0) | trueEyes(1)) & at) != 0 ? 2 : 0;
        }

        /** How many true eyes are neighbours of the group of the point. */
        int trueEyesAt(int k) {
            int c = colourAt(k);
            return c == NONE ? 0 : Long.bitCount(libertiesAt(k) & trueEyes(c));
        }

        /** Why a stone may not be laid at the point; the document's numbers are the constants here. */
        int reasonAt(int k) {
            long stone = 1L << k;
            long own = stonesOf(turn());
            long other = stonesOf(1 - turn());
            if (((own | other) & stone) != 0) {
                return NOT_EMPTY;
            }
            other &= ~grid.taken(own, other, stone);
            own |= stone;
            if (grid.liberties(own, other, stone) == 0) {
                return NO_LIBERTY;
            }
            if (turn() == 0 ? mustNotCome(own, other) : mustNotCome(other, own)) {
                return POSITION_AGAIN;
            }
            return moves >= MOST_MOVES ? NO_MOVES_LEFT : MAY_BE_LAID;
        }

        private boolean mustNotCome(long then0, long then1) {
            int from = setting == 1 ? 0 : Math.max(moves - 1, 0);
            int behind = setting == 1 ? moves + 1 : moves;
            for (int i = from; i < behind && i < before0.length && i < before1.length; i++) {
                if (before0[i] == then0 && before1[i] == then1) {
                    return true;
                }
            }
            return false;
        }

        /** What a stone that may be laid at the point would do. */
        int effectOf(int k, int what) {
            long stone = 1L << k;
            long own = stonesOf(turn());
            long other = stonesOf(1 - turn());
            long taken = grid.taken(own, other, stone);
            own |= stone;
            other &= ~taken;
            switch (what) {
                case 0:
                    return Long.bitCount(taken);
                case 1:
                    return Long.bitCount(grid.liberties(own, other, stone));
                case 2:
                    return Long.bitCount(grid.connected(own, stone));
                default:
                    return grid.groupsWithOneLiberty(other, own);
            }
        }

        boolean layIfAllowed(int k) {
            if (!grid.has(k) || reasonAt(k) != MAY_BE_LAID) {
                return false;
            }
            lay(k);
            return true;
        }

        boolean passIfAllowed() {
            if (moves >= MOST_MOVES) {
                return false;
            }
            moves++;
            passes++;
            passesInRow++;
            keepPosition();
            return true;
        }

        /** Lays a stone that may be laid; answers how many it takes. */
        int lay(int k) {
            long stone = 1L << k;
            int c = turn();
            long taken = grid.taken(stonesOf(c), stonesOf(1 - c), stone);
            int count = Long.bitCount(taken);
            if (c == 0) {
                stones0 |= stone;
                stones1 &= ~taken;
                captives0 += count;
            } else {
                stones1 |= stone;
                stones0 &= ~taken;
                captives1 += count;
            }
            moves++;
            passesInRow = 0;
            keepPosition();
            return count;
        }
    }

    /** The states that undo can bring back: a ring, as the oldest one is forgotten when it is full. */
    private static final class Memory {
        private final Game[] ring;
        private int oldest;
        private int count;

        Memory(Grid grid) {
            ring = new Game[MOST_REMEMBERED];
            for (int i = 0; i < MOST_REMEMBERED; i++) {
                ring[i] = new Game(grid);
            }
        }

        private Game at(int age) {
            int i = (oldest + age) % MOST_REMEMBERED;
            return i >= 0 && i < ring.length ? ring[i] : null;
        }

        void remember(Game game) {
            if (count >= MOST_REMEMBERED) {
                oldest = (oldest + 1) % MOST_REMEMBERED;
                count = MOST_REMEMBERED - 1;
            }
            Game next = at(count);
            if (next != null) {
                next.copyFrom(game);
                count++;
            }
        }

        /** Makes the game the latest state that is remembered; answers how many are left. */
        int takeBackInto(Game game) {
            Game latest = at(count - 1);
            if (latest != null) {
                game.copyFrom(latest);
                count--;
            }
            return count;
        }

        void forgetAll() {
            count = 0;
        }
    }

    /** A save slot. */
    private static final class Slot {
        private final Game kept;
        private boolean used;

        Slot(Grid grid) {
            kept = new Game(grid);
        }
    }

    /** The text buffer, read as a game. */
    private static final class GameText {
        private final char[] characters;
        private int length;

        GameText() {
            characters = new char[MOST_CHARACTERS];
        }

        boolean isFull() {
            return length >= MOST_CHARACTERS;
        }

        int add(char c) {
            if (length >= 0 && length < characters.length) {
                characters[length] = c;
                length++;
            }
            return length;
        }

        int empty() {
            int previous = length;
            length = 0;
            return previous;
        }

        private int at(int i) {
            if (i < 0 || i >= length || i >= characters.length) {
                return NONE;
            }
            return characters[i];
        }

        /** The error position. Behind the end there is no character, so that a text that ends too soon errs at its length. */
        int firstError() {
            if (at(0) != 'B') {
                return 0;
            }
            if (at(1) < '3' || at(1) > '7') {
                return 1;
            }
            for (int i = firstMove(); i < length; i++) {
                if (isPassAt(i)) {
                    continue;
                }
                if (at(i) < '0' || at(i) > '4') {
                    return i;
                }
                int last = at(i) == '4' ? '8' : '9';
                i++;
                if (at(i) < '0' || at(i) > last) {
                    return i;
                }
            }
            return NONE;
        }

        int rows() {
            return at(1) - '0';
        }

        int setting() {
            return at(2) == 's' ? 1 : 0;
        }

        int firstMove() {
            return at(2) == 's' ? 3 : 2;
        }

        boolean isPassAt(int i) {
            return at(i) == 'p';
        }

        int pointAt(int i) {
            return 10 * (at(i) - '0') + at(i + 1) - '0';
        }
    }

    /** The commands of a script, each a number of four digits. */
    private static final class Script {
        private Script() {
        }

        /** The command that has so many behind it. */
        static int commandFromEnd(long script, int behind) {
            long rest = script;
            for (int i = 0; i < behind && i < MOST_COMMANDS; i++) {
                rest = rest / 10000;
            }
            return (int) (rest % 10000);
        }

        static boolean succeeds(Game game, int command) {
            int kind = command / 1000;
            int last = command % 10;
            switch (kind) {
                case 1:
                    return last == 0 && game.layIfAllowed(command / 10 % 100);
                case 2:
                    return command == 2000 && game.passIfAllowed();
                case 6:
                case 8:
                    return holdsForColour(game, kind, command / 100 % 10, command % 100);
                default:
                    return holdsForPoint(game, kind, command / 10 % 100, last);
            }
        }

        private static boolean holdsForColour(Game game, int kind, int c, int least) {
            if (!isColour(c)) {
                return false;
            }
            return (kind == 6 ? game.captivesOf(c) : game.areaOf(c)) >= least;
        }

        private static boolean holdsForPoint(Game game, int kind, int k, int digit) {
            if (!game.grid.has(k)) {
                return false;
            }
            int c = game.colourAt(k);
            switch (kind) {
                case 3:
                    return c != NONE && c == digit;
                case 4:
                    return c != NONE && Long.bitCount(game.libertiesAt(k)) >= digit;
                case 5:
                    return game.reasonAt(k) == digit;
                case 7:
                    return c != NONE && digit == (Ladder.firstStone(game.grid, game.stonesOf(1 - c),
                            game.stonesOf(c), 1L << k, LADDER_STONES) != 0 ? 1 : 0);
                case 9:
                    return game.eyeAt(k) == digit;
                default:
                    return false;
            }
        }
    }
}
