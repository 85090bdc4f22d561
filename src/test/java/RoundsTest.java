import java.util.ArrayDeque;

/** Promises 28 and 30, around() and spans(): which WAYS count, by a walk over what wall() and rounds() tell. */
public final class RoundsTest {
    private static final int NO = Due.NO;
    private static final int MOST = Due.MOST;
    /** A WAY's least and greatest ROUNDS in x, in y. */
    private static final int[] DUE = {-2, 2, -2, 2};
    private static final int[][] OTHERS = {{-1, 2, -2, 2}, {-3, 2, -2, 2}, {-2, 1, -2, 2}, {-2, 3, -2, 2},
        {-2, 2, -1, 2}, {-2, 2, -3, 2}, {-2, 2, -2, 1}, {-2, 2, -2, 3}};

    /** W, H, first SEED, n and how many SHAKES; CELL, x, y; where OTHERS of the same place would tell another answer. */
    private static final int[][] AROUND = {{4, 4, 652, 10, 1, 12, -1, -1}, {3, 4, 980, 74, 2, 0, -1, 1},
        {4, 3, 419, 8, 1, 3, 1, 1}, {3, 4, 856, 82, 2, 2, 1, 1}, {3, 4, 263, 7, 1, 1, -1, -1},
        {4, 3, 415, 96, 2, 1, -1, -1}, {4, 4, 951, 9, 1, 13, 0, 1}, {4, 3, 716, 83, 2, 8, 1, 1}};
    private static final int[][] NO_WAY = {{3, 4, 574, 63, 4, 1, -1, -1}, {3, 4, 574, 63, 4, 1, -1, 0},
        {3, 4, 574, 63, 4, 1, -1, 1}, {4, 3, 359, 92, 4, 3, 0, -1}, {4, 3, 805, 85, 4, 9, 0, 1},
        {4, 3, 359, 92, 4, 3, 1, -1}, {3, 4, 7, 63, 7, 11, 1, 0}, {4, 3, 805, 85, 4, 9, 1, 1}};
    /** The same; CELL, n; by what 0, then by what 1. */
    private static final int[][] SPANS_X = {{3, 4, 615, 79, 1, 6, 8}, {3, 3, 986, 94, 9, 0, 6}, {4, 4, 868, 5, 1, 3, 7},
        {4, 4, 8, 49, 1, 7, 8}, {4, 3, 672, 3, 1, 5, 7}, {4, 3, 468, 96, 1, 0, 7}, {4, 4, 546, 84, 1, 14, 8},
        {3, 3, 737, 89, 8, 5, 6}};
    private static final int[][] SPANS_Y = {{3, 3, 857, 5, 1, 3, 7}, {3, 4, 577, 32, 2, 3, 7}, {3, 4, 332, 67, 1, 2, 8},
        {3, 4, 908, 48, 8, 7, 6}, {4, 3, 238, 64, 2, 3, 8}, {3, 4, 439, 96, 4, 0, 8}, {4, 3, 228, 3, 1, 6, 7},
        {4, 4, 546, 84, 1, 14, 8}};

    private final FoamCells foam;
    private final int[] sides = new int[48];
    private final int[][] walls = new int[144][];

    private RoundsTest(FoamCells told) {
        for (int c = 0; c < 48; c++) {
            int has = Due.cell(told, c, 0);
            sides[c] = has == Due.THROWS ? 0 : has;
        }
        for (int w = 0; w < 144; w++) {
            int a = told.wall(w, 0);
            if (a >= 0) {
                walls[w] = new int[] {a, told.wall(w, 1), told.rounds(w, 0), told.rounds(w, 1)};
            }
        }
        foam = told;
    }

    public static void main(String[] args) {
        around();
        spans();
        ends();
        oneAfterAnother();
        many();
        Due.end();
    }

    private static RoundsTest shaken(int[] row) {
        FoamCells f = Due.ring(row[0], row[1]);
        for (int k = 0; k < row[4]; k++) {
            f.shake(row[2] + k, row[3], 99);
        }
        return new RoundsTest(f);
    }

    /** How many WALLS to each CELL with each number of ROUNDS, -3 .. 3; -1: not at all. */
    private int[][][] walk(int from, int least, int[] limits) {
        int[][][] far = new int[48][7][7];
        for (int[][] cell : far) {
            for (int[] row : cell) {
                java.util.Arrays.fill(row, -1);
            }
        }
        ArrayDeque<int[]> line = new ArrayDeque<>();
        if (sides[from] >= least) {
            far[from][3][3] = 0;
            line.add(new int[] {from, 0, 0});
        }
        while (!line.isEmpty()) {
            int[] at = line.remove();
            for (int[] w : walls) {
                for (int end = 0; w != null && end < 2; end++) {
                    int sign = end == 0 ? 1 : -1;
                    int to = w[1 - end];
                    int x = at[1] + sign * w[2];
                    int y = at[2] + sign * w[3];
                    boolean within = x >= limits[0] && x <= limits[1] && y >= limits[2] && y <= limits[3];
                    if (w[end] == at[0] && sides[to] >= least && within && far[to][x + 3][y + 3] < 0) {
                        far[to][x + 3][y + 3] = far[at[0]][at[1] + 3][at[2] + 3] + 1;
                        line.add(new int[] {to, x, y});
                    }
                }
            }
        }
        return far;
    }

    private int walkAround(int cell, int x, int y, int[] limits) {
        return walk(cell, 0, limits)[cell][x + 3][y + 3];
    }

    /** Whether a WAY ends with 1 in x (what 0), in y (1) and from .. to the other way. */
    private int walkSpans(int cell, int n, int what, int[] limits, int from, int to) {
        int[][] far = walk(cell, n, limits)[cell];
        for (int k = from; k <= to; k++) {
            if ((what == 0 ? far[4][k + 3] : far[k + 3][4]) >= 0) {
                return 1;
            }
        }
        return 0;
    }

    private static void around() {
        Due.says("around: x ROUNDS and y (-1 .. 1 each). NONE: no such ones");
        Due.row("around(0, -2 .. 2, 0)", Due.each(-2, 2, x -> Due.ring(3, 6).around(0, x, 0)), -1, 3, 0, 3, -1);
        Due.row("around(0, 0, -2 .. 2)", Due.each(-2, 2, y -> Due.ring(3, 6).around(0, 0, y)), -1, 6, 0, 6, -1);
        Due.row("around(17, 1, -2 .. 2)", Due.each(-2, 2, y -> Due.ring(3, 6).around(17, 1, y)), -1, 6, 3, 9, -1);
        Due.row("around(17, -1, -2 .. 2)", Due.each(-2, 2, y -> Due.ring(3, 6).around(17, -1, y)), -1, 9, 3, 6, -1);
        FoamCells f = Due.ring(3, 6);
        Due.row("around(0, ..)", new int[] {f.around(0, NO, 0), f.around(0, MOST, 0), f.around(0, 0, NO),
            f.around(0, 0, MOST), f.around(0, 2, 2)}, -1, -1, -1, -1, -1);
        Due.says("around(.., 0, 0): 0");
        for (int c = 0; c < 17; c++) {
            Due.due("around(" + c + ", 0, 0)", Due.lively().around(c, 0, 0), c == 15 ? -1 : 0);
        }
        for (int k = 0; k < 8; k++) {
            int[] row = AROUND[k];
            RoundsTest r = shaken(row);
            int due = r.walkAround(row[5], row[6], row[7], DUE);
            Due.says("never beyond 2 either way on it: both counts are -2 .. 2 all the way");
            Due.due("limit " + k, r.foam.around(row[5], row[6], row[7]), due);
            Due.says("the foam is one where that limit tells");
            Due.due("limit " + k, r.walkAround(row[5], row[6], row[7], OTHERS[k]) != due, true);
            row = NO_WAY[k];
            r = shaken(row);
            Due.says("around: NONE where no WAY stays within");
            Due.due("the walk finds none", r.walkAround(row[5], row[6], row[7], DUE), -1);
            Due.due("around(" + row[5] + ", " + row[6] + ", " + row[7] + ")", r.foam.around(row[5], row[6], row[7]), -1);
        }
    }

    private static void spans() {
        Due.says("spans: what 0, 1. NONE: others");
        Due.row("spans(0, 6, -1 .. 2)", Due.each(-1, 2, what -> new FoamCells().spans(0, 6, what)), -1, 1, 1, -1);
        FoamCells f = new FoamCells();
        Due.row("what and n as they may be", new int[] {f.spans(0, 6, NO), f.spans(0, 6, MOST), f.spans(0, 99, 2),
            f.spans(0, 99, -1)}, -1, -1, -1, -1);
        Due.says("spans: 0 if the CELL itself has fewer than n");
        Due.row("spans(0, 5 .. 7, 0)", Due.each(5, 7, n -> new FoamCells().spans(0, n, 0)), 1, 1, 0);
        Due.row("spans(15, 5 .. 7, 1)", Due.each(5, 7, n -> new FoamCells().spans(15, n, 1)), 1, 1, 0);
        Due.row("n as it may be", new int[] {f.spans(0, NO, 0), f.spans(0, -1, 0), f.spans(0, 0, 1), f.spans(0, MOST, 0)},
            1, 1, 1, 0);
        // 0 and 1 have 5 SIDES, all others about them 6 and 7
        f = Due.swapped(new FoamCells(), 0);
        Due.row("of 5", new int[] {f.spans(0, 5, 0), f.spans(0, 6, 0), f.spans(4, 6, 0), f.spans(4, 7, 0)}, 1, 0, 1, 0);
        for (int k = 0; k < 8; k++) {
            limit(k, SPANS_X[k], 0);
            limit(k, SPANS_Y[k], 1);
        }
    }

    private static void limit(int k, int[] row, int what) {
        RoundsTest r = shaken(row);
        int due = r.walkSpans(row[5], row[6], what, DUE, -2, 2);
        Due.says("spans: none of either beyond 2 either way on it");
        Due.due("limit " + k + ", what " + what, r.foam.spans(row[5], row[6], what), due);
        Due.says("the foam is one where that limit tells");
        int[] limits = OTHERS[k];
        int from = Math.max(-2, limits[what == 0 ? 2 : 0]);
        int to = Math.min(2, limits[what == 0 ? 3 : 1]);
        Due.due("limit " + k + ", what " + what, r.walkSpans(row[5], row[6], what, limits, from, to) != due, true);
    }

    private static void ends() {
        Due.says("spans(): its WAY ends at the CELL with 1 in x (y -2 .. 2), or likewise");
        onlyBy(new int[] {4, 3, 672, 3, 1, 5, 7}, 0, -2);
        onlyBy(new int[] {3, 3, 294, 75, 4, 0, 8}, 0, 2);
        onlyBy(new int[] {3, 4, 437, 7, 1, 2, 7}, 1, -2);
        onlyBy(new int[] {3, 3, 4, 86, 3, 1, 9}, 1, 2);
    }

    private static void onlyBy(int[] row, int what, int end) {
        RoundsTest r = shaken(row);
        for (int k = -2; k <= 2; k++) {
            Due.due("what " + what + ", ends by " + k, r.walkSpans(row[5], row[6], what, DUE, k, k), k == end ? 1 : 0);
        }
        Due.due("what " + what + ", by " + end + " alone", r.foam.spans(row[5], row[6], what), 1);
    }

    /** In these foams the WAYS of both calls come to CELL 0 with -2 and -2; the second one's shortest goes on there. */
    private static void oneAfterAnother() {
        Due.says("around: the fewest WALLS crossed, whatever was asked ahead of it");
        int[][] rows = {{3, 3, 6864, 84, 7, 6, -1, -1}, {4, 3, 19357, 97, 8, 1, -1, -1}, {3, 4, 24838, 98, 8, 5, 0, -1}};
        for (int[] row : rows) {
            RoundsTest r = shaken(row);
            Due.due("around(0, 0, 0)", r.foam.around(0, 0, 0), 0);
            Due.due("around(" + row[5] + ", " + row[6] + ", " + row[7] + ") then", r.foam.around(row[5], row[6], row[7]),
                r.walkAround(row[5], row[6], row[7], DUE));
        }
    }

    /** Every CELL of some foams, as the walk has it. */
    private static void many() {
        Due.says("around, spans: as a walk over what wall() and rounds() tell");
        for (int seed = 0; seed < 12; seed++) {
            RoundsTest r = shaken(new int[] {3 + seed % 2, 3 + seed / 2 % 2, seed, 90, seed});
            for (int c = 0; c < 9; c++) {
                for (int k = 0; k < 9; k++) {
                    int x = k % 3 - 1;
                    int y = k / 3 - 1;
                    Due.due("seed " + seed + ": around(" + c + ", " + x + ", " + y + ")", r.foam.around(c, x, y),
                        r.walkAround(c, x, y, DUE));
                }
                for (int n = 5; n <= 8; n++) {
                    for (int what = 0; what < 2; what++) {
                        Due.due("seed " + seed + ": spans(" + c + ", " + n + ", " + what + ")", r.foam.spans(c, n, what),
                            r.walkSpans(c, n, what, DUE, -2, 2));
                    }
                }
            }
        }
    }
}
