import java.util.ArrayDeque;
import java.util.ArrayList;
import java.util.Arrays;
import java.util.Deque;
import java.util.List;
import java.util.TreeMap;
import java.util.TreeSet;

/**
 * The document once more, written down as plainly as it can be: a board of cells, sets of points, a state that is
 * copied whole. The random runs hold the class against it.
 */
final class Reference {
    private static final class State {
        int rows = 5;
        int[] cells = emptyCells(5);
        int setting = 0;
        int[] captives = {0, 0};
        List<Boolean> moves = new ArrayList<>();
        List<String> positions = new ArrayList<>(List.of(Arrays.toString(emptyCells(5))));

        State copied() {
            State s = new State();
            s.rows = rows;
            s.cells = cells.clone();
            s.setting = setting;
            s.captives = captives.clone();
            s.moves = new ArrayList<>(moves);
            s.positions = new ArrayList<>(positions);
            return s;
        }
    }

    private String text = "";
    private State state = new State();
    private final Deque<State> remembered = new ArrayDeque<>();
    private final State[] slots = new State[2];

    private static int[] emptyCells(int rows) {
        int[] cells = new int[rows * rows];
        Arrays.fill(cells, -1);
        return cells;
    }

    // ---- text

    int append(int c) {
        argument(c >= 0 && c <= 255);
        state(text.length() < 120);
        text += (char) c;
        return text.length();
    }

    int clearText() {
        int n = text.length();
        text = "";
        return n;
    }

    int errorPosition() {
        // the longest beginning that can still become a game, unless the text is one
        if (isGame(text)) {
            return -1;
        }
        for (int i = 0; i < text.length(); i++) {
            if (!text.substring(0, i + 1).matches("B?|B[3-7]s?([0-3][0-9]|4[0-8]|p)*[0-4]?")) {
                return i;
            }
        }
        return text.length();
    }

    private static boolean isGame(String s) {
        return s.matches("B[3-7]s?([0-3][0-9]|4[0-8]|p)*");
    }

    int load() {
        state(isGame(text));
        state = new State();
        remembered.clear();
        slots[0] = null;
        slots[1] = null;
        layOut(text.charAt(1) - '0');
        String rest = text.substring(2);
        if (rest.startsWith("s")) {
            state.setting = 1;
            rest = rest.substring(1);
        }
        int leftOut = 0;
        while (!rest.isEmpty()) {
            boolean isPass = rest.charAt(0) == 'p';
            int width = isPass ? 1 : 2;
            if (!(isPass ? tryPass() : tryLay(Integer.parseInt(rest.substring(0, 2))))) {
                leftOut++;
            }
            rest = rest.substring(width);
        }
        return leftOut;
    }

    // ---- what there is

    int about(int what) {
        argument(what >= 0 && what <= 7);
        int n = state.moves.size();
        switch (what) {
            case 0: return state.rows;
            case 1: return n;
            case 2: return turn();
            case 3: return passes();
            case 4: return n >= 2 && state.moves.get(n - 1) && state.moves.get(n - 2) ? 1 : 0;
            case 5: return groups(state.cells, 0).size() + groups(state.cells, 1).size();
            case 6: return inAtari(state.cells, 0) + inAtari(state.cells, 1);
            default: return state.setting;
        }
    }

    long stones(int c) {
        index(c == 0 || c == 1);
        return asSet(pointsWith(state.cells, c));
    }

    int colour(int c, int what) {
        index(c == 0 || c == 1);
        argument(what >= 0 && what <= 5);
        switch (what) {
            case 0: return pointsWith(state.cells, c).size();
            case 1: return state.captives[c];
            case 2: return area(c);
            case 3: return countEyes(c, 2);
            case 4: return countEyes(c, 1);
            default: return groups(state.cells, c).size();
        }
    }

    int point(int k, int what) {
        point(k);
        argument(what >= 0 && what <= 5);
        boolean empty = state.cells[k] == -1;
        switch (what) {
            case 0: return state.cells[k];
            case 1: return empty ? 0 : alike(state.cells, k).size();
            case 2: return empty ? 0 : liberties(state.cells, k).size();
            case 3: return eye(k);
            case 4: return empty ? alike(state.cells, k).size() : 0;
            default: return empty ? 0 : trueEyesBeside(k);
        }
    }

    long group(int k, int what) {
        point(k);
        argument(what == 0 || what == 1);
        if (state.cells[k] == -1) {
            return 0;
        }
        return asSet(what == 0 ? alike(state.cells, k) : liberties(state.cells, k));
    }

    int why(int k) {
        point(k);
        if (state.cells[k] != -1) {
            return 1;
        }
        int[] then = laid(state.cells, k, turn());
        if (liberties(then, k).isEmpty()) {
            return 2;
        }
        String position = Arrays.toString(then);
        if (state.setting == 1 && state.positions.contains(position)) {
            return 3;
        }
        int n = state.moves.size();
        if (state.setting == 0 && n > 0 && state.positions.get(n - 1).equals(position)) {
            return 3;
        }
        return n >= 120 ? 4 : 0;
    }

    // ---- actions

    int board(int rows) {
        argument(rows >= 3 && rows <= 7);
        remember();
        layOut(rows);
        return rows * rows;
    }

    int play(int k) {
        point(k);
        state(why(k) == 0);
        remember();
        int before = state.captives[0] + state.captives[1];
        tryLay(k);
        return state.captives[0] + state.captives[1] - before;
    }

    int pass() {
        state(state.moves.size() < 120);
        remember();
        tryPass();
        return passes();
    }

    int set(int v) {
        argument(v == 0 || v == 1);
        remember();
        int previous = state.setting;
        state.setting = v;
        return previous;
    }

    int undo() {
        state(!remembered.isEmpty());
        state = remembered.removeLast();
        return remembered.size();
    }

    // ---- what would be

    int ifPlayed(int k, int what) {
        point(k);
        argument(what >= 0 && what <= 3);
        if (why(k) != 0) {
            return -1;
        }
        int[] then = laid(state.cells, k, turn());
        switch (what) {
            case 0: return pointsWith(state.cells, 1 - turn()).size() - pointsWith(then, 1 - turn()).size();
            case 1: return liberties(then, k).size();
            case 2: return alike(then, k).size();
            default: return inAtari(then, 1 - turn());
        }
    }

    int bestTake() {
        TreeMap<Integer, Integer> lowest = new TreeMap<>();
        for (int k = 0; k < state.cells.length; k++) {
            lowest.putIfAbsent(ifPlayed(k, 0), k);
        }
        return lowest.lastKey() >= 1 ? lowest.lastEntry().getValue() : -1;
    }

    int choices() {
        int n = 0;
        for (int k = 0; k < state.cells.length; k++) {
            n += why(k) == 0 ? 1 : 0;
        }
        return n;
    }

    int ladder(int k, int what) {
        point(k);
        argument(what == 0 || what == 1);
        if (state.cells[k] == -1) {
            return -1;
        }
        boolean works = what == 0 ? worksForChaser(state.cells, k, 12) : worksForOwner(state.cells, k, 12);
        return works ? 1 : 0;
    }

    int chase(int k) {
        point(k);
        if (state.cells[k] == -1) {
            return -1;
        }
        int chaser = 1 - state.cells[k];
        TreeSet<Integer> liberties = liberties(state.cells, k);
        for (int at : liberties) {
            int[] then = laid(state.cells, at, chaser);
            if (liberties(then, at).isEmpty()) {
                continue;
            }
            if (liberties.size() == 1 || (liberties.size() == 2 && worksForOwner(then, k, 11))) {
                return at;
            }
        }
        return -1;
    }

    int lead() {
        return area(0) - area(1);
    }

    // ---- scripts, simulations

    int runScript(int n, long script) {
        argument(n >= 1 && n <= 4);
        argument(script >= 0 && Long.toString(script).length() <= 4 * n);
        String digits = "0".repeat(16) + script;
        digits = digits.substring(digits.length() - 4 * n);
        State kept = state.copied();
        int failed = -1;
        for (int i = 0; i < n && failed == -1; i++) {
            if (!succeeds(digits.substring(4 * i, 4 * i + 4))) {
                failed = i;
            }
        }
        state = kept;
        return failed;
    }

    private boolean succeeds(String command) {
        int c = command.charAt(1) - '0';
        int kk = Integer.parseInt(command.substring(1, 3));
        int nn = Integer.parseInt(command.substring(2, 4));
        int last = command.charAt(3) - '0';
        boolean isPoint = kk < state.cells.length;
        boolean isColour = c < 2;
        switch (command.charAt(0)) {
            case '1': return last == 0 && tryLay(kk);
            case '2': return command.equals("2000") && tryPass();
            case '3': return isPoint && last < 2 && state.cells[kk] == last;
            case '4': return isPoint && state.cells[kk] != -1 && point(kk, 2) >= last;
            case '5': return isPoint && why(kk) == last;
            case '6': return isColour && colour(c, 1) >= nn;
            case '7': return isPoint && state.cells[kk] != -1 && ladder(kk, 0) == last;
            case '8': return isColour && colour(c, 2) >= nn;
            case '9': return isPoint && point(kk, 3) == last;
            default: return false;
        }
    }

    int simulate(long seed, int m) {
        argument(m >= 1 && m <= 100);
        State kept = state.copied();
        long x = seed;
        for (int i = 0; i < m; i++) {
            x = x * 6364136223846793005L + 1442695040888963407L;
            int r = (int) (x >>> 33);
            if (r % 16 == 0) {
                tryPass();
            } else {
                tryLay(r / 16 % state.cells.length);
            }
        }
        int answer = 10000 * (state.captives[0] + state.captives[1]) + 100 * about(5) + colour(0, 0);
        state = kept;
        return answer;
    }

    // ---- save slots

    int save(int slot) {
        index(slot == 0 || slot == 1);
        slots[slot] = state.copied();
        return state.moves.size();
    }

    int restore(int slot) {
        index(slot == 0 || slot == 1);
        state(slots[slot] != null);
        state = slots[slot].copied();
        remembered.clear();
        return state.moves.size();
    }

    // ---- what the document's terms mean

    private int turn() {
        return state.moves.size() % 2;
    }

    private int passes() {
        int n = 0;
        for (boolean isPass : state.moves) {
            n += isPass ? 1 : 0;
        }
        return n;
    }

    private void remember() {
        remembered.addLast(state.copied());
        if (remembered.size() > 14) {
            remembered.removeFirst();
        }
    }

    private void layOut(int rows) {
        State next = new State();
        next.rows = rows;
        next.cells = emptyCells(rows);
        next.setting = state.setting;
        next.positions = new ArrayList<>(List.of(Arrays.toString(next.cells)));
        state = next;
    }

    private boolean tryLay(int k) {
        if (k < 0 || k >= state.cells.length || why(k) != 0) {
            return false;
        }
        int mover = turn();
        int others = pointsWith(state.cells, 1 - mover).size();
        state.cells = laid(state.cells, k, mover);
        state.captives[mover] += others - pointsWith(state.cells, 1 - mover).size();
        state.moves.add(false);
        state.positions.add(Arrays.toString(state.cells));
        return true;
    }

    private boolean tryPass() {
        if (state.moves.size() >= 120) {
            return false;
        }
        state.moves.add(true);
        state.positions.add(Arrays.toString(state.cells));
        return true;
    }

    private int rowsOf(int[] cells) {
        return (int) Math.round(Math.sqrt(cells.length));
    }

    private List<Integer> beside(int[] cells, int k, int[][] steps) {
        int rows = rowsOf(cells);
        List<Integer> found = new ArrayList<>();
        for (int[] step : steps) {
            int r = k / rows + step[0];
            int c = k % rows + step[1];
            if (r >= 0 && r < rows && c >= 0 && c < rows) {
                found.add(r * rows + c);
            }
        }
        return found;
    }

    private List<Integer> neighbours(int[] cells, int k) {
        return beside(cells, k, new int[][] {{-1, 0}, {1, 0}, {0, -1}, {0, 1}});
    }

    private List<Integer> corners(int[] cells, int k) {
        return beside(cells, k, new int[][] {{-1, -1}, {-1, 1}, {1, -1}, {1, 1}});
    }

    /** The group of a stone, or the part of an empty point. */
    private TreeSet<Integer> alike(int[] cells, int k) {
        TreeSet<Integer> found = new TreeSet<>();
        Deque<Integer> open = new ArrayDeque<>();
        open.add(k);
        while (!open.isEmpty()) {
            int at = open.remove();
            if (!found.add(at)) {
                continue;
            }
            for (int next : neighbours(cells, at)) {
                if (cells[next] == cells[k]) {
                    open.add(next);
                }
            }
        }
        return found;
    }

    private TreeSet<Integer> liberties(int[] cells, int k) {
        TreeSet<Integer> found = new TreeSet<>();
        for (int stone : alike(cells, k)) {
            for (int next : neighbours(cells, stone)) {
                if (cells[next] == -1) {
                    found.add(next);
                }
            }
        }
        return found;
    }

    private List<Integer> pointsWith(int[] cells, int what) {
        List<Integer> found = new ArrayList<>();
        for (int k = 0; k < cells.length; k++) {
            if (cells[k] == what) {
                found.add(k);
            }
        }
        return found;
    }

    private List<TreeSet<Integer>> groups(int[] cells, int what) {
        List<TreeSet<Integer>> found = new ArrayList<>();
        for (int k : pointsWith(cells, what)) {
            TreeSet<Integer> group = alike(cells, k);
            if (group.first() == k) {
                found.add(group);
            }
        }
        return found;
    }

    private int inAtari(int[] cells, int c) {
        int n = 0;
        for (TreeSet<Integer> group : groups(cells, c)) {
            n += liberties(cells, group.first()).size() == 1 ? 1 : 0;
        }
        return n;
    }

    /** The cells behind a stone that is laid, the groups of the other colour without a liberty taken off. */
    private int[] laid(int[] cells, int k, int c) {
        int[] with = cells.clone();
        with[k] = c;
        int[] then = with.clone();
        for (TreeSet<Integer> group : groups(with, 1 - c)) {
            if (liberties(with, group.first()).isEmpty()) {
                for (int stone : group) {
                    then[stone] = -1;
                }
            }
        }
        return then;
    }

    private int eye(int k) {
        int[] cells = state.cells;
        if (cells[k] != -1) {
            return 0;
        }
        int c = cells[neighbours(cells, k).get(0)];
        if (c == -1) {
            return 0;
        }
        for (int next : neighbours(cells, k)) {
            if (cells[next] != c) {
                return 0;
            }
        }
        List<Integer> corners = corners(cells, k);
        int others = 0;
        for (int corner : corners) {
            others += cells[corner] == 1 - c ? 1 : 0;
        }
        return others >= 2 || (corners.size() < 4 && others >= 1) ? 1 : 2;
    }

    private int countEyes(int c, int kind) {
        int n = 0;
        for (int k = 0; k < state.cells.length; k++) {
            if (eye(k) == kind && state.cells[neighbours(state.cells, k).get(0)] == c) {
                n++;
            }
        }
        return n;
    }

    private int trueEyesBeside(int k) {
        TreeSet<Integer> beside = new TreeSet<>();
        for (int stone : alike(state.cells, k)) {
            beside.addAll(neighbours(state.cells, stone));
        }
        int n = 0;
        for (int at : beside) {
            n += eye(at) == 2 ? 1 : 0;
        }
        return n;
    }

    private int area(int c) {
        int n = pointsWith(state.cells, c).size();
        for (TreeSet<Integer> part : groups(state.cells, -1)) {
            TreeSet<Integer> colours = new TreeSet<>();
            for (int k : part) {
                for (int next : neighbours(state.cells, k)) {
                    if (state.cells[next] != -1) {
                        colours.add(state.cells[next]);
                    }
                }
            }
            if (colours.size() == 1 && colours.first() == c) {
                n += part.size();
            }
        }
        return n;
    }

    private boolean worksForChaser(int[] cells, int k, int d) {
        int chaser = 1 - cells[k];
        TreeSet<Integer> liberties = liberties(cells, k);
        if (d == 0) {
            return false;
        }
        if (liberties.size() == 1) {
            return !liberties(laid(cells, liberties.first(), chaser), liberties.first()).isEmpty();
        }
        if (liberties.size() == 2) {
            for (int at : liberties) {
                int[] then = laid(cells, at, chaser);
                if (!liberties(then, at).isEmpty() && worksForOwner(then, k, d - 1)) {
                    return true;
                }
            }
        }
        return false;
    }

    private boolean worksForOwner(int[] cells, int k, int d) {
        TreeSet<Integer> liberties = liberties(cells, k);
        if (liberties.size() != 1) {
            return false;
        }
        int at = liberties.first();
        int[] then = laid(cells, at, cells[k]);
        int left = liberties(then, at).size();
        if (left == 0) {
            return true;
        }
        return left <= 2 && worksForChaser(then, at, d);
    }

    private static long asSet(Iterable<Integer> points) {
        long set = 0;
        for (int k : points) {
            set |= 1L << k;
        }
        return set;
    }

    private void point(int k) {
        index(k >= 0 && k < state.cells.length);
    }

    private static void index(boolean holds) {
        if (!holds) {
            throw new IndexOutOfBoundsException();
        }
    }

    private static void argument(boolean holds) {
        if (!holds) {
            throw new IllegalArgumentException();
        }
    }

    private static void state(boolean holds) {
        if (!holds) {
            throw new IllegalStateException();
        }
    }
}
