import java.util.ArrayList;
import java.util.Arrays;
import java.util.List;

/**
 * Long runs of calls, the same each time, whose answers are compared with those of a second, plain program:
 * it keeps no cover, but looks through the pieces, and it foresees by living through the hours.
 */
public final class PlainModelTests {
    private static final int RUNS = 120;
    private static final int INDEX = -1001;
    private static final int ARGUMENT = -1002;
    private static final int STATE = -1003;

    private static final class Tile {
        int x;
        int y;
        int length;
        boolean across;
        int up;
        int down;
        boolean out;

        boolean covers(int cx, int cy) {
            int dx = cx - x;
            int dy = cy - y;
            boolean beside = across ? dy == 0 && dx >= 0 && dx < length : dx == 0 && dy >= 0 && dy < length;
            return beside && !out;
        }
    }

    private static final class Model {
        int[][] wet = new int[10][8];
        int[] sun = new int[8];
        List<Tile> tiles = new ArrayList<>();
        int hour;

        Model() {
            for (int[] column : wet) {
                Arrays.fill(column, -1);
            }
            Arrays.fill(sun, 1);
        }

        Model copy() {
            Model other = new Model();
            for (int x = 0; x < 10; x++) {
                other.wet[x] = wet[x].clone();
            }
            other.sun = sun.clone();
            other.hour = hour;
            for (Tile t : tiles) {
                Tile u = new Tile();
                u.x = t.x;
                u.y = t.y;
                u.length = t.length;
                u.across = t.across;
                u.up = t.up;
                u.down = t.down;
                u.out = t.out;
                other.tiles.add(u);
            }
            return other;
        }

        int on(int x, int y) {
            for (int n = 0; n < tiles.size(); n++) {
                if (tiles.get(n).covers(x, y)) {
                    return n;
                }
            }
            return -1;
        }

        int shown(int x, int y) {
            int n = on(x, y);
            return n < 0 ? -1 : tiles.get(n).up;
        }

        boolean wall(int x, int y) {
            return x >= 0 && x <= 9 && y >= 0 && y <= 7;
        }

        boolean tile(int n) {
            return n >= 0 && n < tiles.size();
        }

        boolean isLoose(int n) {
            Tile t = tiles.get(n);
            int wetCells = 0;
            for (int x = 0; x < 10; x++) {
                for (int y = 0; y < 8; y++) {
                    wetCells += t.covers(x, y) && wet[x][y] > 0 ? 1 : 0;
                }
            }
            return wetCells == t.length;
        }

        int spread(int x, int y, int wide, int high) {
            if (!wall(x, y)) {
                return INDEX;
            }
            if (wide < 1 || wide > 10 - x || high < 1 || high > 8 - y) {
                return ARGUMENT;
            }
            int cells = 0;
            for (int i = x; i < x + wide; i++) {
                for (int j = y; j < y + high; j++) {
                    if (on(i, j) < 0) {
                        wet[i][j] = 12;
                        cells++;
                    }
                }
            }
            return cells;
        }

        int setSun(int h, int s) {
            if (h < 0 || h > 7) {
                return INDEX;
            }
            if (s < 0 || s > 4) {
                return ARGUMENT;
            }
            int before = sun[h];
            sun[h] = s;
            return before;
        }

        /** Whether a tile can lie so, whatever tile n covers now. */
        boolean canLie(Tile t, int n) {
            for (int i = 0; i < t.length; i++) {
                int x = t.across ? t.x + i : t.x;
                int y = t.across ? t.y : t.y + i;
                if (!wall(x, y) || wet[x][y] <= 0 || on(x, y) >= 0 && on(x, y) != n) {
                    return false;
                }
            }
            return true;
        }

        int press(int x, int y, int length, boolean across, int front, int back) {
            if (!wall(x, y)) {
                return INDEX;
            }
            if (length < 1 || length > 3 || front < 0 || front > 6 || back < 0 || back > 6) {
                return ARGUMENT;
            }
            Tile t = new Tile();
            t.x = x;
            t.y = y;
            t.length = length;
            t.across = across;
            t.up = front;
            t.down = back;
            if (tiles.size() == 100 || !canLie(t, -1)) {
                return STATE;
            }
            tiles.add(t);
            return tiles.size() - 1;
        }

        int flip(int n) {
            if (!tile(n)) {
                return INDEX;
            }
            if (!isLoose(n)) {
                return STATE;
            }
            Tile t = tiles.get(n);
            int up = t.up;
            t.up = t.down;
            t.down = up;
            for (int x = 0; x < 10; x++) {
                for (int y = 0; y < 8; y++) {
                    wet[x][y] -= t.covers(x, y) ? 1 : 0;
                }
            }
            return t.up;
        }

        int turn(int n) {
            if (!tile(n)) {
                return INDEX;
            }
            if (!isLoose(n)) {
                return STATE;
            }
            Tile then = copy().tiles.get(n);
            then.across = !then.across;
            if (!canLie(then, n)) {
                return STATE;
            }
            tiles.set(n, then);
            return then.length;
        }

        int take(int n) {
            if (!tile(n)) {
                return INDEX;
            }
            Tile t = tiles.get(n);
            if (t.out) {
                return STATE;
            }
            boolean loose = isLoose(n);
            for (int x = 0; x < 10; x++) {
                for (int y = 0; y < 8; y++) {
                    if (!loose && t.covers(x, y)) {
                        wet[x][y] = -1;
                    }
                }
            }
            t.out = true;
            return loose ? 1 : 0;
        }

        int cell(int x, int y, int what) {
            if (!wall(x, y) || what < 0 || what > 2) {
                return INDEX;
            }
            return what == 0 ? wet[x][y] : what == 1 ? on(x, y) : shown(x, y);
        }

        int piece(int n, int what) {
            if (!tile(n) || what < 0 || what > 7) {
                return INDEX;
            }
            Tile t = tiles.get(n);
            int[] facts = {t.x, t.y, t.length, t.across ? 1 : 0, t.up, t.down, isLoose(n) ? 1 : 0, t.out ? 1 : 0};
            return facts[what];
        }

        int count(int what) {
            if (what < 0 || what > 7) {
                return INDEX;
            }
            int[] counts = {hour, tiles.size(), 0, 0, 0, 0, 0, 0};
            for (int n = 0; n < tiles.size(); n++) {
                counts[2] += tiles.get(n).out ? 0 : 1;
                counts[3] += isLoose(n) ? 1 : 0;
            }
            int[][] names = gapNames();
            for (int x = 0; x < 10; x++) {
                for (int y = 0; y < 8; y++) {
                    counts[4] += wet[x][y] >= 0 ? 1 : 0;
                    counts[5] += wet[x][y] >= 1 ? 1 : 0;
                    counts[6] += on(x, y) >= 0 ? 1 : 0;
                    counts[7] += names[x][y] == 10 * y + x ? 1 : 0;
                }
            }
            return counts[what];
        }

        /** For each cell the smallest number of a cell of its gap, -1 if it is covered. */
        int[][] gapNames() {
            int[][] names = new int[10][8];
            for (int x = 0; x < 10; x++) {
                for (int y = 0; y < 8; y++) {
                    names[x][y] = on(x, y) >= 0 ? -1 : 10 * y + x;
                }
            }
            for (int again = 0; again < 80; again++) {
                for (int x = 0; x < 10; x++) {
                    for (int y = 0; y < 8; y++) {
                        if (x < 9) {
                            join(names, x, y, x + 1, y);
                        }
                        if (y < 7) {
                            join(names, x, y, x, y + 1);
                        }
                    }
                }
            }
            return names;
        }

        void join(int[][] names, int x, int y, int u, int v) {
            if (names[x][y] >= 0 && names[u][v] >= 0) {
                int least = Math.min(names[x][y], names[u][v]);
                names[x][y] = least;
                names[u][v] = least;
            }
        }

        boolean noPattern(int kind, int a, int b) {
            return kind < 0 || kind > 3 || a < 0 || a > 6 || b < 0 || b > 6;
        }

        int off(int kind, int a, int b) {
            if (noPattern(kind, a, b)) {
                return ARGUMENT;
            }
            int cells = 0;
            for (int x = 0; x < 10; x++) {
                for (int y = 0; y < 8; y++) {
                    int[] wanted = {a, (y & 1) == 0 ? a : b, (x + y & 1) == 0 ? a : b, shown(9 - x, y)};
                    cells += shown(x, y) == wanted[kind] ? 0 : 1;
                }
            }
            return cells;
        }

        int advise(int kind, int a, int b) {
            if (noPattern(kind, a, b)) {
                return ARGUMENT;
            }
            int[] then = new int[tiles.size()];
            int least = off(kind, a, b);
            int now = least;
            for (int n = 0; n < tiles.size(); n++) {
                Model other = copy();
                then[n] = other.flip(n) < 0 ? 81 : other.off(kind, a, b);
                least = Math.min(least, then[n]);
            }
            for (int n = 0; n < tiles.size(); n++) {
                if (then[n] == least && least < now) {
                    return n;
                }
            }
            return -1;
        }

        /** By runs of cells: each needs a third of its length, upwards. */
        int mends(int x, int y, boolean across) {
            if (!wall(x, y)) {
                return INDEX;
            }
            int[][] names = gapNames();
            int name = names[x][y];
            int needed = 0;
            for (int i = 0; i < 10 && name >= 0; i++) {
                for (int j = 0; j < 8; j++) {
                    boolean first = names[i][j] == name && !in(names, name, across ? i - 1 : i, across ? j : j - 1);
                    int length = 0;
                    while (first && in(names, name, across ? i + length : i, across ? j : j + length)) {
                        length++;
                    }
                    needed += (length + 2) / 3;
                }
            }
            return needed;
        }

        boolean in(int[][] names, int name, int x, int y) {
            return wall(x, y) && names[x][y] == name;
        }

        int gap(int x, int y) {
            if (!wall(x, y)) {
                return INDEX;
            }
            int[][] names = gapNames();
            int cells = 0;
            for (int[] column : names) {
                for (int name : column) {
                    cells += name >= 0 && name == names[x][y] ? 1 : 0;
                }
            }
            return cells;
        }

        int pass(int hours) {
            if (hours < 1 || hours > 100) {
                return ARGUMENT;
            }
            for (int h = 0; h < hours; h++) {
                for (int x = 0; x < 10; x++) {
                    for (int y = 0; y < 8; y++) {
                        int less = on(x, y) >= 0 && hour % 2 == 1 ? 0 : sun[hour % 8];
                        wet[x][y] = wet[x][y] < 0 ? -1 : Math.max(0, wet[x][y] - less);
                    }
                }
                hour++;
            }
            return count(3);
        }

        int loose(int n) {
            if (!tile(n)) {
                return INDEX;
            }
            Model then = copy();
            for (int hours = 0; hours <= 200; hours++) {
                if (!then.isLoose(n)) {
                    return hours;
                }
                then.pass(1);
            }
            return -1;
        }

        int dry() {
            Model then = copy();
            for (int hours = 0; hours <= 200; hours++) {
                if (then.count(5) == 0) {
                    return hours;
                }
                then.pass(1);
            }
            return -1;
        }

        long digest() {
            long d = 967;
            for (int what = 0; what < 8; what++) {
                d = 31 * d + count(what);
            }
            for (int c = 0; c < 80; c++) {
                for (int what = 0; what < 3; what++) {
                    d = 31 * d + cell(c % 10, c / 10, what);
                }
            }
            for (int n = 0; n < tiles.size(); n++) {
                for (int what = 0; what < 8; what++) {
                    d = 31 * d + piece(n, what);
                }
            }
            for (int s : sun) {
                d = 31 * d + s;
            }
            return d;
        }
    }

    private static long seed;

    /** A number from low to high by a rule of its own, so that each run of the tests is the same. */
    private static int some(int low, int high) {
        seed = seed * 6364136223846793005L + 1442695040888963407L;
        return low + (int) ((seed >>> 33) % (high - low + 1));
    }

    /** Mostly low to high, now and then beyond. */
    private static int about(int low, int high) {
        int[] beyond = {low - 1, high + 1, Integer.MIN_VALUE, Integer.MAX_VALUE};
        return some(0, 59) == 0 ? beyond[some(0, 3)] : some(low, high);
    }

    private static int[] someCall(Model model) {
        int last = Math.max(0, model.tiles.size() - 1);
        int kind = some(0, 24);
        switch (kind) {
            case 0:
                return new int[] {0, about(0, 9), about(0, 7), about(1, 6), about(1, 5)};
            case 1:
                return new int[] {1, about(0, 7), about(0, 4)};
            case 2: case 3: case 4: case 5: case 6: case 7: case 8: case 9:
                return new int[] {2, about(0, 9), about(0, 7), about(1, 3), some(0, 1), about(0, 3), about(0, 3)};
            case 10: case 11: case 12:
                return new int[] {kind - 7, about(0, last)};
            case 13:
                return new int[] {6, about(0, 9), about(0, 7), about(0, 2)};
            case 14:
                return new int[] {7, about(0, last), about(0, 7)};
            case 15:
                return new int[] {8, about(0, 7)};
            case 16:
                return new int[] {9, about(0, 3), about(0, 3), about(0, 3)};
            case 17: case 18:
                return new int[] {10, about(0, 3), about(0, 3), about(0, 3)};
            case 19:
                return new int[] {11, about(0, 9), about(0, 7), some(0, 1)};
            case 20:
                return new int[] {12, about(0, 9), about(0, 7)};
            case 21:
                return new int[] {13, some(0, 40) == 0 ? about(1, 100) : about(1, 3)};
            case 22: case 23:
                return new int[] {14, about(0, last)};
            default:
                return new int[] {15};
        }
    }

    private static int byModel(Model m, int[] c) {
        switch (c[0]) {
            case 0: return m.spread(c[1], c[2], c[3], c[4]);
            case 1: return m.setSun(c[1], c[2]);
            case 2: return m.press(c[1], c[2], c[3], c[4] == 1, c[5], c[6]);
            case 3: return m.flip(c[1]);
            case 4: return m.turn(c[1]);
            case 5: return m.take(c[1]);
            case 6: return m.cell(c[1], c[2], c[3]);
            case 7: return m.piece(c[1], c[2]);
            case 8: return m.count(c[1]);
            case 9: return m.off(c[1], c[2], c[3]);
            case 10: return m.advise(c[1], c[2], c[3]);
            case 11: return m.mends(c[1], c[2], c[3] == 1);
            case 12: return m.gap(c[1], c[2]);
            case 13: return m.pass(c[1]);
            case 14: return m.loose(c[1]);
            default: return m.dry();
        }
    }

    private static int byProgram(WetMosaic m, int[] c) {
        switch (c[0]) {
            case 0: return m.spread(c[1], c[2], c[3], c[4]);
            case 1: return m.setSun(c[1], c[2]);
            case 2: return m.press(c[1], c[2], c[3], c[4] == 1, c[5], c[6]);
            case 3: return m.flip(c[1]);
            case 4: return m.turn(c[1]);
            case 5: return m.take(c[1]) ? 1 : 0;
            case 6: return m.cell(c[1], c[2], c[3]);
            case 7: return m.piece(c[1], c[2]);
            case 8: return m.count(c[1]);
            case 9: return m.off(c[1], c[2], c[3]);
            case 10: return m.advise(c[1], c[2], c[3]);
            case 11: return m.mends(c[1], c[2], c[3] == 1);
            case 12: return m.gap(c[1], c[2]);
            case 13: return m.pass(c[1]);
            case 14: return m.loose(c[1]);
            default: return m.dry();
        }
    }

    private static int answer(WetMosaic m, int[] call) {
        try {
            return byProgram(m, call);
        } catch (RuntimeException e) {
            Class<?> thrown = e.getClass();
            return thrown == IndexOutOfBoundsException.class ? INDEX
                : thrown == IllegalArgumentException.class ? ARGUMENT
                : thrown == IllegalStateException.class ? STATE
                : -9999;
        }
    }

    private static boolean runAgrees(int run) {
        seed = run * 7919L + 17;
        WetMosaic program = new WetMosaic();
        Model model = new Model();
        int[] all = {0, 0, 0, 10, 8};
        if (run % 4 != 0 && answer(program, all) != byModel(model, all)) {
            return false;
        }
        for (int n = 0; n < 250; n++) {
            int[] call = someCall(model);
            int want = byModel(model, call);
            int got = answer(program, call);
            if (got != want || program.digest() != model.digest()) {
                System.out.println("run " + run + ", call " + n + " " + Arrays.toString(call)
                    + " answered " + got + ", due is " + want + ", or the digest differs then");
                return false;
            }
        }
        return program.share() == model.count(6) / 80.0;
    }

    public static void main(String[] args) {
        int wrong = 0;
        for (int run = 0; run < RUNS; run++) {
            wrong += runAgrees(run) ? 0 : 1;
        }
        System.out.println(wrong == 0 ? "all runs agree" : wrong + " runs do not agree");
        if (wrong != 0) {
            System.exit(1);
        }
    }
}
