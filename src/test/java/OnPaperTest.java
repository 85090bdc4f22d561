/** The sentences of promises 34 to 42: what is told on paper, against what happens when it is done. */
public final class OnPaperTest {
    private static final int NO = Due.NO;
    private static final int MOST = Due.MOST;

    public static void main(String[] args) {
        lowest();
        reach();
        alike();
        until();
        rested();
        resting();
        later();
        gone();
        first();
        Due.end();
    }

    /** A foam that shakes, cuts and a RATE keep restless. */
    private static FoamCells restless(int seed) {
        FoamCells f = Due.ring(3 + seed % 2, 3 + seed / 2 % 2);
        f.cut(seed % 9, 0, 1);
        f.cut((seed + 4) % 9, 2, 0);
        f.shake(seed, 15, 99);
        f.rate(1 + seed % 9);
        return f;
    }

    // ---- lowest ----

    private static void lowest() {
        Due.says("lowest: 0 .. 2. NONE: others; lowest(0) is STRAIN");
        FoamCells f = Due.swapped(new FoamCells(), 0, 30);
        Due.row("lowest(-1 .. 3)", Due.each(-1, 3, f::lowest), -1, 8, 4, 0, -1);
        Due.row("lowest(..)", new int[] {f.lowest(NO), f.lowest(MOST)}, -1, -1);
        Due.says("or fewer: where each SWAP makes more, none");
        Due.row("a ring", Due.each(0, 2, new FoamCells()::lowest), 0, 0, 0);
        f = Due.swapped(new FoamCells(), 0);
        Due.row("one away", Due.each(0, 2, f::lowest), 4, 0, 0);
        Due.says("the least by two, the first of which eases by 0 or makes more");
        lows(new int[] {3, 4}, new int[] {12, 3}, 4, 4, 0);
        lows(new int[] {3, 4}, new int[] {19, 22, 27, 11, 35, 6, 16}, 6, 6, 4);
        Due.says("a second SWAP may be any that can be then, though it could not be ahead of the first");
        lows(new int[] {3, 3}, new int[] {22, 5, 20, 19, 4, 25, 16}, 28, 20, 12);
        lows(new int[] {3, 3}, new int[] {1, 10, 23, 0}, 22, 14, 6);
        Due.says("a second SWAP that can't be then is none");
        lows(new int[] {3, 3}, new int[] {20, 19, 16, 11, 8, 23, 20}, 20, 12, 10);
        Due.says("lowest: as by doing all of them");
        for (int seed = 0; seed < 10; seed++) {
            int s = seed;
            Due.row("seed " + seed, Due.each(0, 2, n -> restless(s).lowest(n)), lowByDoing(() -> restless(s)));
        }
    }

    private static void lows(int[] ring, int[] swaps, int... due) {
        Due.Maker maker = () -> Due.swapped(Due.ring(ring[0], ring[1]), swaps);
        Due.row("lowest", Due.each(0, 2, n -> maker.make().lowest(n)), due);
        Due.row("by doing", lowByDoing(maker), due);
    }

    private static int[] lowByDoing(Due.Maker maker) {
        FoamCells f = maker.make();
        int[] low = {f.all(0), f.all(0), f.all(0)};
        for (int w = 0; w < 144; w++) {
            FoamCells g = maker.make();
            if (g.swap(w) >= 0) {
                low[1] = Math.min(low[1], g.all(0));
                low[2] = Math.min(low[2], low[1]);
                for (int v = 0; v < 144; v++) {
                    int told = g.wall(v, 6);
                    low[2] = told < 0 ? low[2] : Math.min(low[2], g.all(0) + 1000 - told);
                }
            }
        }
        return low;
    }

    // ---- reach ----

    private static void reach() {
        Due.says("reach: what 0, 1. NONE: others; the fewest SWAPS (0 .. 2); NONE: not by 2");
        Due.row("reach(0, 6, -1 .. 2)", Due.each(-1, 2, what -> new FoamCells().reach(0, 6, what)), -1, 0, -1, -1);
        Due.row("reach(0, 7, -1 .. 2)", Due.each(-1, 2, what -> new FoamCells().reach(0, 7, what)), -1, 1, 5, -1);
        Due.row("reach(0, 8, -1 .. 2)", Due.each(-1, 2, what -> new FoamCells().reach(0, 8, what)), -1, 2, 5, -1);
        Due.row("reach(0, 3 .. 9, 0)", Due.each(3, 9, n -> new FoamCells().reach(0, n, 0)), -1, 2, 1, 0, 1, 2, -1);
        Due.row("reach(0, 3 .. 9, 1)", Due.each(3, 9, n -> new FoamCells().reach(0, n, 1)), -1, 0, 0, -1, 5, 5, -1);
        FoamCells f = new FoamCells();
        Due.row("n as it may be", new int[] {f.reach(0, NO, 0), f.reach(0, MOST, 0), f.reach(0, 0, 1),
            f.reach(0, 6, NO), f.reach(0, 6, MOST), f.reach(15, 6, 0)}, -1, -1, -1, -1, -1, 0);
        Due.says("reach(): 0 SWAPS if it has n; NONE of 0");
        Due.row("of all", Due.each(0, 15, c -> new FoamCells().reach(c, 6, 1)), -1, -1, -1, -1, -1, -1, -1, -1, -1, -1,
            -1, -1, -1, -1, -1, -1);
        Due.says("reach: a CELL of 3 SIDES has none fewer");
        f.cut(5, 0, 1);
        Due.row("reach(16, 1 .. 6, 0)", new int[] {f.reach(16, 1, 0), f.reach(16, 2, 0), f.reach(16, 3, 0),
            f.reach(16, 4, 0), f.reach(16, 5, 0), f.reach(16, 6, 0)}, -1, -1, 0, 1, 2, -1);
        Due.says("of two the first WALL is the least by which any second one does, whatever it has between");
        Due.Maker eight = () -> Due.swapped(Due.ring(3, 3), 20, 3, 6, 18, 24, 22, 21, 0);
        Due.row("one more, but by two", new int[] {eight.make().cell(4, 0), eight.make().reach(4, 9, 0),
            eight.make().reach(4, 9, 1)}, 8, 2, 0);
        f = Due.swapped(eight.make(), 0);
        Due.due("it has as many behind the first", f.cell(4, 0), 8);
        Due.says("reach: NONE: not by 2, though it has but one too many");
        Due.Maker four = () -> Due.swapped(Due.ring(3, 3), 13, 10, 1, 2, 6, 12, 7, 8, 25);
        Due.row("reach(2, 3, ..)", new int[] {four.make().cell(2, 0), four.make().reach(2, 3, 0),
            four.make().reach(2, 3, 1)}, 4, -1, -1);
        reachByDoing(eight, 9);
        reachByDoing(four, 9);
        for (int seed = 0; seed < 4; seed++) {
            int s = seed;
            reachByDoing(() -> restless(s), 9);
        }
    }

    /** By doing all first SWAPS, and each second one. */
    private static void reachByDoing(Due.Maker maker, int cells) {
        int[][] many = new int[cells][30];
        int[][] first = new int[cells][30];
        for (int c = 0; c < cells; c++) {
            for (int n = 0; n < 30; n++) {
                many[c][n] = Due.cell(maker.make(), c, 0) == n ? 0 : 3;
                first[c][n] = -1;
            }
        }
        for (int w = 0; w < 144; w++) {
            note(maker, cells, many, first, w);
        }
        for (int w = 0; w < 144; w++) {
            for (int v = 0; v < 144 && maker.make().wall(w, 5) == 1; v++) {
                note(maker, cells, many, first, w, v);
            }
        }
        Due.says("reach: as by doing all of them");
        for (int c = 0; c < cells; c++) {
            FoamCells f = maker.make();
            for (int n = 0; n < 30 && Due.cell(f, c, 0) != Due.THROWS; n++) {
                Due.due("reach(" + c + ", " + n + ", 0)", f.reach(c, n, 0), many[c][n] == 3 ? -1 : many[c][n]);
                Due.due("reach(" + c + ", " + n + ", 1)", f.reach(c, n, 1), first[c][n]);
            }
        }
    }

    private static void note(Due.Maker maker, int cells, int[][] many, int[][] first, int... swaps) {
        FoamCells f = maker.make();
        for (int w : swaps) {
            if (f.swap(w) < 0) {
                return;
            }
        }
        for (int c = 0; c < cells; c++) {
            int n = Due.cell(f, c, 0);
            if (n != Due.THROWS && many[c][n] > swaps.length) {
                many[c][n] = swaps.length;
                first[c][n] = swaps[0];
            }
        }
    }

    // ---- alike ----

    private static final int[][] LENGTHS_50 = {{21, 99}, {9, 99}, {23, 99}, {0, 0}, {10, 99}, {33, 99}, {3, 99}};
    private static final int[][] LENGTHS_51 = {{33, 12}, {27, 99}, {23, 99}, {24, 99}, {12, 0}, {7, 99}, {29, 99}};

    private static FoamCells alikeBy50() {
        return still(Due.swapped(Due.ring(4, 3), 33, 11, 12), LENGTHS_50);
    }

    private static FoamCells alikeBy51() {
        return still(Due.swapped(Due.ring(3, 4), 10, 24, 13), LENGTHS_51);
    }

    /** Where no AREA changes, WALLS alone tell what happens. */
    private static FoamCells still(FoamCells f, int[]... lengths) {
        f.rate(0);
        for (int[] p : lengths) {
            f.length(p[0], p[1]);
        }
        return f;
    }

    private static void alike() {
        Due.says("alike: behind how many STEPS (1 .. 50); the same CELLS, each with as many SIDES");
        Due.due("a ring: behind 1, not 0", new FoamCells().alike(), 1);
        // 0 is SWAPPED by the first STEP, has 10, 6, 2, and is SWAPPED back by the fourth
        FoamCells f = new FoamCells();
        f.length(0, 0);
        Due.due("there and back", f.alike(), 4);
        Due.says("alike: NONE: not by 50");
        f = Due.swapped(new FoamCells(), 0);
        f.length(0, 4);
        Due.due("back, and never there again", f.alike(), -1);
        Due.says("all CELLS are there: one that VANISHED never is");
        f = Due.swapped(new FoamCells(), 0, 1, 2);
        Due.lengthen(f, 99);
        f.area(0, 1);
        Due.row("0 is gone", new int[] {f.alike(), f.gone(0)}, -1, 1);
        Due.says("alike: the last STEP that counts is the 50th");
        Due.due("by doing", alikeByDoing(alikeBy50()), 50);
        Due.due("alike()", alikeBy50().alike(), 50);
        Due.due("by doing", alikeByDoing(alikeBy51()), 51);
        Due.due("alike()", alikeBy51().alike(), -1);
        Due.says("alike: as by doing");
        for (int seed = 0; seed < 100; seed++) {
            f = restless(seed);
            f.rate(0);
            int by = alikeByDoing(restlessStill(seed));
            Due.due("seed " + seed, f.alike(), by > 50 ? -1 : by);
        }
    }

    private static FoamCells restlessStill(int seed) {
        FoamCells f = restless(seed);
        f.rate(0);
        return f;
    }

    /** -1: not by 52. A STEP costs few calls, as a look ends with the first CELL that has other SIDES. */
    private static int alikeByDoing(FoamCells f) {
        int cells = f.count(0);
        int[] was = Due.each(0, 20, c -> Due.cell(f, c, 0));
        for (int k = 1; k <= 52; k++) {
            f.steps(1);
            boolean same = f.count(0) == cells;
            for (int c = 0; c < was.length && same; c++) {
                same = Due.cell(f, c, 0) == was[c];
            }
            if (same) {
                return k;
            }
        }
        return -1;
    }

    // ---- until ----

    /** Some of 3 SIDES, of small AREA. */
    private static FoamCells shrinking() {
        FoamCells f = Due.ring(6, 6);
        f.rate(1);
        f.cut(0, 0, 1);
        f.cut(14, 0, 1);
        f.cut(28, 0, 1);
        Due.lengthen(f, 99);
        f.area(36, 3);
        f.area(37, 3);
        f.area(38, 6);
        return f;
    }

    private static void until() {
        Due.says("until(): 0, if there are so few now");
        FoamCells f = shrinking();
        Due.row("until", new int[] {f.until(39), f.until(40), f.until(MOST)}, 0, 0, 0);
        Due.says("n CELLS or fewer: two go by the first STEP, one by the second");
        Due.row("until(35 .. 38)", Due.each(35, 38, f::until), -1, 2, 1, 1);
        Due.says("until(): NONE for n below 0 only as not by 99");
        Due.row("until", new int[] {f.until(0), f.until(-1), f.until(NO)}, -1, -1, -1);
        Due.says("until: 0 .. 99; the last STEP that counts is the 99th");
        Due.row("by doing", fewByDoing(wearing(87), 15), 99);
        Due.due("until(15)", wearing(87).until(15), 99);
        Due.row("by doing", fewByDoing(wearing(89), 15), 100);
        Due.due("until(15)", wearing(89).until(15), -1);
        Due.says("until: as by doing");
        for (int seed = 0; seed < 40; seed++) {
            for (int n = 6; n < 12; n++) {
                int by = fewByDoing(restless(seed), n)[0];
                Due.due("seed " + seed + ": until(" + n + ")", restless(seed).until(n), by > 99 ? -1 : by);
            }
        }
    }

    private static FoamCells wearing(int seed) {
        FoamCells f = new FoamCells();
        for (int k = 0; k < 4; k++) {
            f.cut((seed / (k + 1) + 5 * k) % 16, 0, 1);
        }
        f.shake(seed, 10, 99);
        f.rate(3);
        return f;
    }

    private static int[] fewByDoing(FoamCells f, int n) {
        for (int k = 0; k <= 101; k++) {
            if (f.count(0) <= n) {
                return new int[] {k};
            }
            f.steps(1);
        }
        return new int[] {-1};
    }

    // ---- rested, resting ----

    private static void rested() {
        Due.says("rested(): n 1 .. 99, h 0 .. 99, SEED and many less 1 up to 999,999, many 1 .. 10, what 0, 1. NONE");
        int[][] none = {{-1, 1, 1, 0, 0}, {1000000, 1, 1, 0, 0}, {0, 0, 1, 0, 0}, {0, 11, 1, 0, 0}, {0, 1, 0, 0, 0},
            {0, 1, 100, 0, 0}, {0, 1, 1, -1, 0}, {0, 1, 1, 100, 0}, {0, 1, 1, 0, -1}, {0, 1, 1, 0, 2},
            {999999, 2, 1, 0, 0}, {999991, 10, 1, 0, 0}, {-1, 2, 1, 0, 1}, {NO, 1, 1, 0, 0}, {MOST, 10, 1, 0, 0},
            {0, NO, 1, 0, 0}, {0, MOST, 1, 0, 0}, {0, 1, NO, 0, 0}, {0, 1, MOST, 0, 0}, {0, 1, 1, NO, 0},
            {0, 1, 1, MOST, 0}, {0, 1, 1, 0, NO}, {0, 1, 1, 0, MOST}};
        for (int[] a : none) {
            Due.leaves("rested(" + java.util.Arrays.toString(a) + ")", Due::lively,
                f -> f.rested(a[0], a[1], a[2], a[3], a[4]), -1);
        }
        Due.says("rested: the least and the greatest of each");
        int[][] some = {{0, 1, 1, 0}, {999999, 1, 1, 0}, {0, 10, 1, 0}, {999990, 10, 99, 99}, {999998, 2, 99, 0},
            {0, 10, 1, 99}, {5, 9, 50, 4}};
        for (int[] a : some) {
            restedAsDone(Due::lively, a[0], a[1], a[2], a[3]);
        }
        Due.says("many of them: the tenth counts, the eleventh does not");
        int seed = bestAt(9);
        Due.due("such a seed is found", seed >= 0, true);
        Due.row("many 9, 10", Due.each(9, 10, many -> shaken().rested(seed, many, 30, 99, 1) - seed), earlier(seed), 9);
        Due.says("the first SEED by which it comes");
        Due.row("all alike", new int[] {new FoamCells().rested(7, 10, 1, 0, 1), new FoamCells().rested(0, 10, 1, 0, 1),
            new FoamCells().rested(999990, 10, 1, 0, 1)}, 7, 0, 999990);
        Due.says("each from now on, not from where the one ahead of it came to");
        for (int k = 0; k < 20; k++) {
            int s = k;
            restedAsDone(() -> restless(s), 50 * k, 10, 1 + 5 * k, 5 * k);
        }
    }

    private static FoamCells shaken() {
        FoamCells f = new FoamCells();
        f.shake(1, 99, 99);
        return f;
    }

    /** A SEED from which on the least STRAIN of ten comes by the last one alone. */
    private static int bestAt(int place) {
        for (int seed = 0; seed < 5000; seed++) {
            if (shaken().rested(seed, 10, 30, 99, 1) == seed + place) {
                return seed;
            }
        }
        return -1;
    }

    private static int earlier(int seed) {
        int best = 0;
        for (int k = 1; k < 9; k++) {
            best = strainBy(shaken(), seed + k, 30, 99) < strainBy(shaken(), seed + best, 30, 99) ? k : best;
        }
        return best;
    }

    private static int strainBy(FoamCells f, int seed, int n, int h) {
        f.shake(seed, n, h);
        f.relax();
        return f.all(0);
    }

    private static void restedAsDone(Due.Maker maker, int seed, int many, int n, int h) {
        int best = seed;
        int least = MOST;
        for (int k = 0; k < many; k++) {
            int strain = strainBy(maker.make(), seed + k, n, h);
            if (strain < least) {
                least = strain;
                best = seed + k;
            }
        }
        String call = "rested(" + seed + ", " + many + ", " + n + ", " + h + ", ";
        Due.due(call + "0)", maker.make().rested(seed, many, n, h, 0), least);
        Due.due(call + "1)", maker.make().rested(seed, many, n, h, 1), best);
    }

    private static void resting() {
        Due.says("resting: what 0, 1. NONE: others");
        FoamCells f = Due.swapped(new FoamCells(), 0, 30);
        Due.row("resting(-1 .. 2)", Due.each(-1, 2, f::resting), -1, 2, 0, -1);
        Due.row("resting(..)", new int[] {f.resting(NO), f.resting(MOST)}, -1, -1);
        Due.says("resting: at REST");
        Due.row("a ring", Due.each(0, 1, new FoamCells()::resting), 0, 0);
        Due.says("resting: as relax() does; how many SWAPS of these alone");
        for (int seed = 0; seed < 60; seed++) {
            f = restless(seed);
            int[] told = Due.each(0, 1, f::resting);
            Due.due("seed " + seed + ", how many", told[0], f.relax());
            Due.due("seed " + seed + ", strain", told[1], f.all(0));
            Due.row("seed " + seed + ", then", Due.each(0, 1, f::resting), 0, f.all(0));
        }
    }

    // ---- later, gone, first ----

    private static void later() {
        Due.says("later: n 0 .. 50, what 0 .. 4. Integer.MIN_VALUE: others");
        FoamCells f = shrinking();
        Due.row("later(0, -1 .. 5)", Due.each(-1, 5, what -> shrinking().later(0, what)), NO, 39, 36, 0, 0, 3, NO);
        Due.row("later(1, -1 .. 5)", Due.each(-1, 5, what -> shrinking().later(1, what)), NO, 37, 12, 0, 2, 3, NO);
        Due.row("later(2, 0 .. 4)", Due.each(0, 4, what -> shrinking().later(2, what)), 36, 0, 0, 3, 51);
        Due.row("n -1, 51, ..", new int[] {f.later(-1, 0), f.later(51, 0), f.later(NO, 0), f.later(MOST, 0),
            f.later(50, 0), f.later(0, NO), f.later(0, MOST), f.later(-1, 9)}, NO, NO, NO, NO, 36, NO, NO, NO);
        Due.says("later: n STEPS, the 50th too");
        // 46 of LENGTH 50 loses 1 a STEP
        Due.row("later(49, 2), later(50, 2)", Due.each(49, 50, n -> slow(50).later(n, 2)), 0, 1);
        Due.says("later(2), (3): of these STEPS alone (0 of none)");
        f = Due.lively();
        Due.row("counts ahead", new int[] {f.count(4), f.count(5)}, 3, 1);
        Due.row("later(0, 2), later(0, 3)", new int[] {f.later(0, 2), f.later(0, 3)}, 0, 0);
        Due.says("later: as by doing");
        for (int seed = 0; seed < 40; seed++) {
            for (int n : new int[] {0, 1, 2, 7, 25, 49, 50}) {
                int s = seed;
                f = restless(seed);
                int swaps = f.count(4);
                int vanished = f.count(5);
                if (n > 0) {
                    f.steps(n);
                }
                Due.row("seed " + seed + ": later(" + n + ", ..)", Due.each(0, 4, what -> restless(s).later(n, what)),
                    f.count(0), f.all(0), f.count(4) - swaps, f.count(5) - vanished, f.all(4));
            }
        }
    }

    /** At REST; 46 loses 1 a STEP and comes to 0 first; no AREA changes. */
    private static FoamCells slow(int length) {
        FoamCells f = Due.ring(3, 5);
        f.cut(3, 0, 4);
        f.cut(6, 2, 4);
        f.relax();
        Due.lengthen(f, 99);
        f.rate(0);
        f.length(46, length);
        return f;
    }

    private static void gone() {
        Due.says("gone: behind how many STEPS (1 .. 50) a CELL is gone. NONE: not by 50");
        FoamCells f = shrinking();
        Due.row("gone", new int[] {f.gone(36), f.gone(37), f.gone(38), f.gone(0), f.gone(35)}, 1, 1, 2, -1, -1);
        Due.says("gone: the last STEP that counts is the 50th");
        Due.row("by 50", new int[] {wearing(589).gone(18), goneByDoing(wearing(589), 18)}, 50, 50);
        Due.due("by 51", wearing(18).gone(17), -1);
        f = wearing(18);
        f.steps(50);
        Due.due("behind 50 it is there", Due.cell(f, 17, 0), 3);
        f.steps(1);
        Due.due("behind 51 it is gone", Due.cell(f, 17, 0), Due.THROWS);
        Due.says("gone: as by doing");
        for (int seed = 0; seed < 40; seed++) {
            for (int c = 0; c < 18; c++) {
                Due.due("seed " + seed + ": gone(" + c + ")", restless(seed).gone(c), goneByDoing(restless(seed), c));
            }
        }
    }

    private static int goneByDoing(FoamCells f, int c) {
        if (Due.cell(f, c, 0) == Due.THROWS) {
            return -1;
        }
        for (int k = 1; k <= 50; k++) {
            f.steps(1);
            if (Due.cell(f, c, 0) == Due.THROWS) {
                return k;
            }
        }
        return -1;
    }

    private static void first() {
        Due.says("first: what 0, 1. NONE: others, not by 50");
        FoamCells f = shrinking();
        Due.row("first(-1 .. 2)", Due.each(-1, 2, f::first), -1, -1, 1, -1);
        Due.row("first(..)", new int[] {f.first(NO), f.first(MOST)}, -1, -1);
        Due.row("a ring", Due.each(0, 1, new FoamCells()::first), -1, -1);
        Due.says("first(0): the last STEP that counts is the 50th");
        Due.row("length 1, 2, 49 .. 51", new int[] {slow(1).first(0), slow(2).first(0), slow(49).first(0),
            slow(50).first(0), slow(51).first(0)}, 1, 2, 49, 50, -1);
        f = slow(51);
        f.steps(50);
        Due.row("by the 51st", new int[] {f.count(4), f.steps(1)}, slow(51).count(4), 1);
        Due.says("first(1): the last STEP that counts is the 50th");
        Due.due("by 50", wearing(589).first(1), 50);
        Due.due("by 51", wearing(18).first(1), -1);
        f = wearing(18);
        f.steps(50);
        int before = f.count(5);
        f.steps(1);
        Due.row("by the 51st", new int[] {before, f.count(5)}, 0, 1);
        Due.says("first(): by SWAPS, by what VANISHES within STEPS: what was ahead of them is none");
        f = new FoamCells();
        f.swap(0);
        f.swap(0);
        f.cut(5, 0, 1);
        f.vanish(16);
        Due.row("counts", new int[] {f.count(4), f.count(5)}, 2, 1);
        Due.row("first", Due.each(0, 1, f::first), -1, -1);
        Due.says("first(0): a SWAP of a CELL of AREA 0, too");
        // three of them leave 5 with 3 SIDES: it VANISHES by the fourth STEP
        f.area(5, 0);
        Due.row("first", Due.each(0, 1, f::first), 1, 4);
        Due.says("first: as by doing");
        for (int seed = 0; seed < 60; seed++) {
            int s = seed;
            Due.row("seed " + seed, Due.each(0, 1, what -> restless(s).first(what)),
                firstByDoing(restless(seed), 0), firstByDoing(restless(seed), 1));
        }
    }

    private static int firstByDoing(FoamCells f, int what) {
        int before = f.count(4 + what);
        for (int k = 1; k <= 50; k++) {
            f.steps(1);
            if (f.count(4 + what) > before) {
                return k;
            }
        }
        return -1;
    }
}
