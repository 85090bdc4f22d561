/** The sentences of promises 15 to 33, 43 and 44, and of IN FULL about these, that name a boundary case. */
public final class AsksTest {
    private static final int NO = Due.NO;
    private static final int MOST = Due.MOST;

    public static void main(String[] args) {
        cell();
        side();
        wall();
        between();
        far();
        shells();
        way();
        mutual();
        about();
        kind();
        pairs();
        ranked();
        rounds();
        pieces();
        all();
        easiest();
        log();
        count();
        noSuch();
        changesNothing();
        Due.end();
    }

    /** 5 and 7 have two WALLS between them, 1 and 17; 0 and 3 are the ENDS of 1. */
    private static FoamCells twoBetween() {
        return Due.swapped(Due.ring(3, 3), 0, 1);
    }

    private static void cell() {
        Due.says("cell: SIDES (what 0) .. unlike neighbours (5); Integer.MIN_VALUE: others");
        FoamCells f = Due.lively();
        Due.row("cell(12, -1 .. 6)", Due.each(-1, 6, what -> Due.lively().cell(12, what)),
            NO, 8, 200, -2, 20 + 11 + 8 + 12 + 19 + 10 + 10 + 10, 5 + 6 + 6 + 6 + 5 + 7 + 7 + 5, 8, NO);
        Due.row("cell(12, ..)", new int[] {f.cell(12, NO), f.cell(12, MOST)}, NO, NO);
        Due.row("cell(16, 0 .. 5), of the fewest sides", Due.each(0, 5, what -> Due.lively().cell(16, what)),
            3, 50, 3, 20, 21, 3);
        Due.row("cell(0, 0 .. 5), the least number", Due.each(0, 5, what -> Due.lively().cell(0, what)),
            6, 98, 0, 67, 7 + 6 + 7 + 5 + 8 + 6, 6);
        Due.says("AREA below 0, and as low as it may be set");
        Due.due("cell(11, 1)", f.cell(11, 1), -5);
        f.area(11, -999);
        Due.due("cell(11, 1)", f.cell(11, 1), -999);
        Due.says("the sum of LENGTHS of its SIDES, from 0 to 99 each");
        for (int w : Due.walls(f, 16)) {
            f.length(w, 0);
        }
        Due.due("cell(16, 3)", f.cell(16, 3), 0);
        for (int w : Due.walls(f, 16)) {
            f.length(w, 99);
        }
        Due.due("cell(16, 3)", f.cell(16, 3), 297);
        Due.says("all SIDES of its neighbours, side by side, together; how many unlike neighbours");
        f = twoBetween();
        Due.row("neighbours of 5", Due.neighbours(f, 5), 7, 3, 8, 7, 4, 2, 0);
        Due.row("sides of these", Due.each(0, 6, i -> twoBetween().cell(twoBetween().side(5, i, 1), 0)),
            8, 6, 6, 8, 6, 6, 4);
        Due.due("7 counts twice", f.cell(5, 4), 44);
        Due.due("7 counts once", f.cell(5, 5), 6);
        Due.says("cell: NoSuchElementException: no such CELL");
        for (int c : Due.NO_CELLS) {
            for (int what : new int[] {NO, -1, 0, 5, 6}) {
                Due.due("cell(" + c + ", " + what + ")", Due.cell(Due.lively(), c, what), Due.THROWS);
            }
        }
    }

    private static void side() {
        Due.says("side: the i-th SIDE (0 on): the WALL (0), the neighbour (1), what it ends at (2); NONE: others");
        FoamCells f = Due.lively();
        Due.row("side(12, -1 .. 8, 0)", Due.each(-1, 8, i -> Due.lively().side(12, i, 0)),
            -1, 25, 29, 36, 37, 38, 47, 42, 34, -1);
        Due.row("side(12, -1 .. 8, 1)", Due.each(-1, 8, i -> Due.lively().side(12, i, 1)),
            -1, 8, 9, 13, 0, 3, 2, 14, 11, -1);
        Due.row("side(12, -1 .. 8, 2): behind the last the first", Due.each(-1, 8, i -> Due.lively().side(12, i, 2)),
            -1, 9, 13, 0, 3, 2, 14, 11, 8, -1);
        Due.row("side(16, -1 .. 3, 2)", Due.each(-1, 3, i -> Due.lively().side(16, i, 2)), -1, 2, 5, 1, -1);
        Due.row("side(0, 0, -1 .. 3)", Due.each(-1, 3, what -> Due.lively().side(0, 0, what)), -1, 0, 1, 4, -1);
        Due.row("side(0, 0, ..)", new int[] {f.side(0, 0, NO), f.side(0, 0, MOST), f.side(0, NO, 0),
            f.side(0, MOST, 0), f.side(0, 6, 9)}, -1, -1, -1, -1, -1);
        Due.says("side: NoSuchElementException: no such CELL");
        for (int c : Due.NO_CELLS) {
            for (int k : new int[] {NO, -1, 0, 2, 3, MOST}) {
                Due.due("side(" + c + ", 0, " + k + ")", Due.side(Due.lively(), c, 0, k), Due.THROWS);
                Due.due("side(" + c + ", " + k + ", 0)", Due.side(Due.lively(), c, k, 0), Due.THROWS);
            }
        }
    }

    private static void wall() {
        Due.says("wall: what 0 .. 6. NONE: others");
        Due.row("wall(38, -1 .. 7)", Due.each(-1, 7, what -> Due.lively().wall(38, what)),
            -1, 3, 12, 0, 2, 19, 1, 1000 + 2 * (5 + 8 - 6 - 7) - 4, -1);
        Due.row("wall(0, -1 .. 7), the least", Due.each(-1, 7, what -> Due.lively().wall(0, what)),
            -1, 0, 1, 4, 13, 10, 1, 1000 + 2 * (6 + 7 - 6 - 6) - 4, -1);
        Due.row("wall(143, -1 .. 7), the greatest: it can't", Due.each(-1, 7, what -> Due.full().wall(143, what)),
            -1, 11, 47, 0, 6, 10, 0, -1, -1);
        Due.row("wall(0, ..)", new int[] {Due.lively().wall(0, NO), Due.lively().wall(0, MOST)}, -1, -1);
        Due.says("ENDS, the lesser (2), the other (3): both one CELL");
        Due.row("wall(1, 0 .. 6)", Due.each(0, 6, what -> oneEnd().wall(1, what)), 0, 3, 2, 2, 10, 0, -1);
        Due.says("LENGTH (4) 0 .. 99");
        FoamCells f = new FoamCells();
        f.length(3, 0);
        f.length(4, 99);
        Due.row("wall(3, 4), wall(4, 4)", new int[] {f.wall(3, 4), f.wall(4, 4)}, 0, 99);
        Due.says("wall: NONE: no such WALL");
        for (int w : Due.NO_WALLS) {
            for (int what : new int[] {-1, 0, 1, 2, 3, 4, 5, 6, 7}) {
                Due.due("wall(" + w + ", " + what + ")", Due.lively().wall(w, what), -1);
            }
        }
    }

    private static FoamCells oneEnd() {
        return Due.swapped(Due.ring(3, 3), 4, 2, 5);
    }

    private static void between() {
        Due.says("between: how many WALLS lie between two CELLS (what 0), the least number of these (1)");
        FoamCells f = twoBetween();
        Due.row("of two", new int[] {f.between(5, 7, 0), f.between(5, 7, 1), f.between(7, 5, 0), f.between(7, 5, 1)},
            2, 1, 2, 1);
        Due.row("the other one of two", new int[] {f.wall(17, 0), f.wall(17, 1)}, 5, 7);
        Due.row("of one", new int[] {f.between(0, 3, 0), f.between(3, 0, 1)}, 0, -1);
        f = new FoamCells();
        Due.row("of one, the least number of all", new int[] {f.between(0, 1, 0), f.between(1, 0, 1)}, 1, 0);
        Due.says("no WALL (1): NONE; (0): 0");
        Due.row("0 and 10", new int[] {f.between(0, 10, 0), f.between(0, 10, 1)}, 0, -1);
        Due.says("between: NONE: alike, others");
        Due.row("alike", new int[] {f.between(5, 5, 0), f.between(5, 5, 1), f.between(0, 0, 0)}, -1, -1, -1);
        Due.row("what -1, 2, ..", new int[] {f.between(0, 1, -1), f.between(0, 1, 2), f.between(0, 1, NO),
            f.between(0, 1, MOST), f.between(0, 10, 2)}, -1, -1, -1, -1, -1);
        Due.says("between: NONE: none such CELLS");
        for (int c : Due.NO_CELLS) {
            f = Due.lively();
            Due.row("between, " + c, new int[] {f.between(c, 0, 0), f.between(0, c, 0), f.between(c, 0, 1),
                f.between(0, c, 1), f.between(c, c, 0)}, -1, -1, -1, -1, -1);
        }
    }

    private static void far() {
        Due.says("far() of a CELL to itself: 0");
        for (int c = 0; c < 48; c++) {
            Due.due("far(" + c + ", " + c + ")", Due.full().far(c, c), 0);
        }
        Due.says("how many WALLS at least are crossed, on the ring over its edges");
        for (int w = 3; w <= 6; w++) {
            for (int h = 3; h <= 6; h++) {
                for (int c = 0; c < w * h; c++) {
                    FoamCells f = Due.ring(w, h);
                    Due.due(w + " by " + h + ": far(0, " + c + ")", f.far(0, c), onRing(c % w, c / w, w, h));
                    Due.due(w + " by " + h + ": far(" + c + ", 0)", f.far(c, 0), onRing(c % w, c / w, w, h));
                }
            }
        }
        Due.says("far: NONE: no such ones");
        for (int c : Due.NO_CELLS) {
            FoamCells f = Due.lively();
            Due.row("far, " + c, new int[] {f.far(c, 0), f.far(0, c), f.far(c, c)}, -1, -1, -1);
        }
    }

    /** Steps of one sign in both x and y add up, of unlike signs the greater one counts, on the nearest of all sheets. */
    private static int onRing(int x, int y, int w, int h) {
        int least = MOST;
        for (int i = -1; i <= 1; i++) {
            for (int j = -1; j <= 1; j++) {
                int p = x + i * w;
                int q = y + j * h;
                int walls = p < 0 == q < 0 ? Math.abs(p + q) : Math.max(Math.abs(p), Math.abs(q));
                least = Math.min(least, walls);
            }
        }
        return least;
    }

    private static void shells() {
        Due.says("shell: how many CELLS are as far as d (0 on); NONE: d below 0");
        FoamCells f = Due.ring(6, 6);
        Due.row("shell(0, -1 .. 6)", Due.each(-1, 6, d -> Due.ring(6, 6).shell(0, d)), -1, 1, 6, 12, 15, 2, 0, 0);
        Due.row("shell(0, ..)", new int[] {f.shell(0, NO), f.shell(0, MOST), f.shell(35, 0), f.shell(35, 4)},
            -1, 0, 1, 2);
        Due.says("shellOf: the i-th CELL (0 on, by numbers); NONE");
        Due.row("shellOf(12, 1, -1 .. 8)", Due.each(-1, 8, i -> Due.lively().shellOf(12, 1, i)),
            -1, 0, 2, 3, 8, 9, 11, 13, 14, -1);
        Due.row("shellOf(12, 0, -1 .. 1)", Due.each(-1, 1, i -> Due.lively().shellOf(12, 0, i)), -1, 12, -1);
        Due.row("shellOf(12, 2, -1 .. 7)", Due.each(-1, 7, i -> Due.lively().shellOf(12, 2, i)),
            -1, 1, 4, 5, 6, 7, 10, 16, -1);
        f = Due.lively();
        Due.row("shells of 12", Due.each(0, 3, d -> Due.lively().shell(12, d)), 1, 8, 7, 0);
        Due.row("shellOf", new int[] {f.shellOf(12, 3, 0), f.shellOf(12, -1, 0), f.shellOf(12, NO, 0),
            f.shellOf(12, MOST, 0), f.shellOf(12, 1, NO), f.shellOf(12, 1, MOST)}, -1, -1, -1, -1, -1, -1);
        Due.says("two WALLS between two CELLS: counted once");
        f = twoBetween();
        Due.row("shell(5, 0 .. 2)", new int[] {f.shell(5, 0), f.shell(5, 1), f.shell(5, 2)}, 1, 6, 2);
        Due.says("shell, shellOf: NONE: no such CELL");
        for (int c : Due.NO_CELLS) {
            f = Due.lively();
            Due.row("shell, " + c, new int[] {f.shell(c, 0), f.shell(c, 1), f.shellOf(c, 0, 0)}, -1, -1, -1);
        }
    }

    private static void way() {
        Due.says("way: the i-th CELL (0 the first itself); NONE");
        FoamCells f = Due.ring(6, 6);
        Due.row("way(0, 14, -1 .. 5)", Due.each(-1, 5, i -> Due.ring(6, 6).way(0, 14, i)), -1, 0, 1, 2, 8, 14, -1);
        Due.row("way(14, 0, -1 .. 5)", Due.each(-1, 5, i -> Due.ring(6, 6).way(14, 0, i)), -1, 14, 8, 2, 1, 0, -1);
        Due.row("way(7, 7, -1 .. 1)", Due.each(-1, 1, i -> Due.ring(6, 6).way(7, 7, i)), -1, 7, -1);
        Due.row("way(0, 14, ..)", new int[] {f.way(0, 14, NO), f.way(0, 14, MOST)}, -1, -1);
        Due.says("of like ones that whose CELLS, from the first on, are the least, over the ring's edges");
        // (5, 5) to (2, 5): by x either way; to (5, 2): by y either way
        Due.row("way(35, 32, 1 .. 3)", Due.each(1, 3, i -> Due.ring(6, 6).way(35, 32, i)), 30, 31, 32);
        Due.row("way(35, 17, 1 .. 3)", Due.each(1, 3, i -> Due.ring(6, 6).way(35, 17, i)), 5, 11, 17);
        Due.says("the first CELLS decide, not the last ones");
        leastWays();
        Due.says("way: NONE: no such ones");
        for (int c : Due.NO_CELLS) {
            f = Due.lively();
            Due.row("way, " + c, new int[] {f.way(c, 0, 0), f.way(0, c, 0), f.way(0, c, 1), f.way(c, c, 0)},
                -1, -1, -1, -1);
        }
    }

    /** From each CELL to each other one: the least neighbour that is nearer, and so on. */
    private static void leastWays() {
        for (int seed = 0; seed < 3; seed++) {
            for (int from = 0; from < 12; from++) {
                for (int to = 0; to < 12; to++) {
                    FoamCells f = Due.ring(4, 3);
                    f.shake(seed, 20, 99);
                    int at = from;
                    for (int i = 0; at != to; i++) {
                        Due.due("seed " + seed + ": way(" + from + ", " + to + ", " + i + ")", f.way(from, to, i), at);
                        int next = MOST;
                        for (int o : Due.neighbours(f, at)) {
                            next = f.far(o, to) == f.far(at, to) - 1 ? Math.min(next, o) : next;
                        }
                        at = next;
                    }
                    Due.due("the last", f.way(from, to, f.far(from, to)), to);
                    Due.due("behind it", f.way(from, to, f.far(from, to) + 1), -1);
                }
            }
        }
    }

    private static void mutual() {
        Due.says("mutual(): of two unlike CELLS, neither of them counted");
        FoamCells f = new FoamCells();
        Due.row("next to each other, apart", new int[] {f.mutual(0, 1), f.mutual(1, 0), f.mutual(0, 10)}, 2, 2, 2);
        f.ring(6, 6);
        Due.row("apart by 1, 2, 2, 3", new int[] {f.mutual(0, 1), f.mutual(0, 7), f.mutual(0, 2), f.mutual(0, 3)},
            2, 2, 1, 0);
        Due.says("mutual: a CELL with two WALLS to one counts once");
        // 5 to 7, 7 to 5 by two WALLS each
        f = twoBetween();
        for (int c = 0; c < 9; c++) {
            for (int d = 0; d < 9; d++) {
                int many = 0;
                for (int e = 0; e < 9; e++) {
                    many += twoBetween().between(c, e, 0) > 0 && f.between(d, e, 0) > 0 ? 1 : 0;
                }
                Due.due("mutual(" + c + ", " + d + ")", twoBetween().mutual(c, d), c == d ? -1 : many);
            }
            f = twoBetween();
        }
        Due.says("mutual: NONE: no such ones, alike");
        Due.row("alike", new int[] {f.mutual(0, 0), f.mutual(8, 8)}, -1, -1);
        for (int c : Due.NO_CELLS) {
            f = Due.lively();
            Due.row("mutual, " + c, new int[] {f.mutual(c, 0), f.mutual(0, c), f.mutual(c, c)}, -1, -1, -1);
        }
    }

    private static void about() {
        Due.says("about(): NONE if no CELL has n; NONE: others");
        // 16 has 3: 7 + 7 + 7; 12 has 8: 47
        Due.row("about(2 .. 9, 0)", Due.each(2, 9, n -> Due.lively().about(n, 0)),
            -1, 7, -1, upper(5), upper(6), upper(7), 47, -1);
        Due.row("about(2 .. 9, 1)", Due.each(2, 9, n -> Due.lively().about(n, 1)),
            -1, 1, -1, lower(5), lower(6), lower(7), 8, -1);
        FoamCells f = Due.lively();
        Due.row("what -1, 2, ..", new int[] {f.about(6, -1), f.about(6, 2), f.about(6, NO), f.about(6, MOST)},
            -1, -1, -1, -1);
        Due.row("n 0, -1, ..", new int[] {f.about(0, 0), f.about(0, 1), f.about(-1, 0), f.about(NO, 0),
            f.about(MOST, 1), f.about(1 << 30, 1)}, -1, -1, -1, -1, -1, -1);
        Due.says("in lowest terms");
        f = new FoamCells();
        Due.row("6 of 6", new int[] {f.about(6, 0), f.about(6, 1)}, 6, 1);
        // 0 and 1 have 5 SIDES: 7, 7, 6, 6, 6 about each: 64 of 10
        f.swap(0);
        Due.row("32 of 5", new int[] {f.about(5, 0), f.about(5, 1)}, 32, 5);
        Due.row("41 of 7", new int[] {f.about(7, 0), f.about(7, 1)}, 41, 7);
        int up = f.kind(6, 2);
        int low = 6 * f.kind(6, 0);
        Due.due("the same number", (long) f.about(6, 0) * low == (long) f.about(6, 1) * up, true);
        Due.due("no common divisor", divisor(f.about(6, 0), f.about(6, 1)), 1);
    }

    private static int upper(int n) {
        int up = Due.lively().kind(n, 2);
        return up / divisor(up, n * Due.lively().kind(n, 0));
    }

    private static int lower(int n) {
        int low = n * Due.lively().kind(n, 0);
        return low / divisor(Due.lively().kind(n, 2), low);
    }

    private static int divisor(int a, int b) {
        int d = Math.min(a, b);
        while (a % d != 0 || b % d != 0) {
            d--;
        }
        return d;
    }

    private static void kind() {
        Due.says("kind: any n; Integer.MIN_VALUE: others");
        Due.row("kind(-1 .. 9, 0)", Due.each(-1, 9, n -> Due.lively().kind(n, 0)), 0, 0, 0, 0, 1, 0, 4, 5, 5, 1, 0);
        // 3, 8, 10, 11 have 5 SIDES: 100, 50, 100, -5
        Due.row("kind(2 .. 9, 1)", Due.each(2, 9, n -> Due.lively().kind(n, 1)),
            0, 50, 0, 245, 98 + 152 + 100 + 100 + 102, 98 + 100 + 50 + 100 + 100, 200, 0);
        Due.row("kind(2 .. 9, 2), of few", Due.each(2, 4, n -> Due.lively().kind(n, 2)), 0, 21, 0);
        Due.row("kind(8 .. 9, 2)", Due.each(8, 9, n -> Due.lively().kind(n, 2)), 47, 0);
        FoamCells f = Due.lively();
        Due.row("what -1, 3, ..", new int[] {f.kind(6, -1), f.kind(6, 3), f.kind(6, NO), f.kind(6, MOST),
            f.kind(99, 3), f.kind(-1, -1)}, NO, NO, NO, NO, NO, NO);
        Due.row("n as it may be", new int[] {f.kind(NO, 0), f.kind(MOST, 1), f.kind(NO, 2), f.kind(0, 2)}, 0, 0, 0, 0);
    }

    private static void pairs() {
        Due.says("pairs(): any n, m, pairs(n, n) each WALL once");
        FoamCells f = Due.lively();
        int sum = 0;
        for (int n = 3; n <= 8; n++) {
            for (int m = n; m <= 8; m++) {
                sum += f.pairs(n, m);
                Due.due("pairs(" + m + ", " + n + ")", f.pairs(m, n), f.pairs(n, m));
            }
        }
        Due.due("all together", sum, 48);
        // of 5 SIDES are 3, 8, 10, 11; 8 and 11 lie side by side, 12 of 8 next to 3, 8, 11
        Due.row("of few", new int[] {f.pairs(5, 5), f.pairs(3, 7), f.pairs(8, 8), f.pairs(3, 3), f.pairs(8, 5)},
            1, 3, 0, 0, 3);
        Due.row("n, m as they may be", new int[] {f.pairs(NO, NO), f.pairs(MOST, MOST), f.pairs(0, 0), f.pairs(-1, -1),
            f.pairs(6, NO), f.pairs(MOST, 6), f.pairs(6, 0)}, 0, 0, 0, 0, 0, 0, 0);
        Due.row("of a ring", new int[] {new FoamCells().pairs(6, 6), Due.ring(6, 6).pairs(6, 6)}, 48, 108);
        Due.says("two WALLS between two CELLS are two");
        f = twoBetween();
        Due.row("5 and 7 have 7, 8 sides", new int[] {f.cell(5, 0), f.cell(7, 0), f.pairs(7, 8)}, 7, 8, 2);
    }

    private static void ranked() {
        Due.says("ranked: the i-th CELL (0 on) by AREA, the least first, then by number. NONE");
        Due.row("ranked(-1 .. 16)", Due.each(-1, 16, i -> Due.lively().ranked(i)),
            -1, 11, 5, 8, 16, 0, 1, 2, 3, 6, 7, 9, 10, 14, 13, 4, 12, -1);
        FoamCells f = Due.lively();
        Due.row("ranked(..)", new int[] {f.ranked(NO), f.ranked(MOST)}, -1, -1);
        f = Due.full();
        Due.row("of a full one", new int[] {f.ranked(-1), f.ranked(0), f.ranked(47), f.ranked(48)}, -1, 0, 35, -1);
    }

    private static void rounds() {
        Due.says("rounds: from the lesser CELL to the other one; Integer.MIN_VALUE: others");
        Due.row("rounds(38, -1 .. 2)", Due.each(-1, 2, what -> Due.lively().rounds(38, what)), NO, 1, -1, NO);
        Due.row("rounds(0, -1 .. 2)", Due.each(-1, 2, what -> Due.lively().rounds(0, what)), NO, 0, 0, NO);
        Due.row("rounds(0, ..)", new int[] {Due.lively().rounds(0, NO), Due.lively().rounds(0, MOST)}, NO, NO);
        Due.row("rounds(143, 0 .. 1)", Due.each(0, 1, what -> Due.full().rounds(143, what)), 0, 0);
        Due.says("rounds: Integer.MIN_VALUE: no such WALL");
        for (int w : Due.NO_WALLS) {
            Due.row("rounds(" + w + ", ..)", new int[] {Due.lively().rounds(w, 0), Due.lively().rounds(w, 1),
                Due.lively().rounds(w, 2)}, NO, NO, NO);
        }
    }

    private static void pieces() {
        Due.says("pieces: NONE: n below 0, others");
        FoamCells f = Due.lively();
        Due.row("n below 0", new int[] {f.pieces(-1, 0), f.pieces(-1, 1), f.pieces(-1, 2), f.pieces(NO, 0)},
            -1, -1, -1, -1);
        Due.row("what -1, 3, ..", new int[] {f.pieces(6, -1), f.pieces(6, 3), f.pieces(6, NO), f.pieces(6, MOST),
            f.pieces(99, 3)}, -1, -1, -1, -1, -1);
        Due.row("n 0: all", new int[] {f.pieces(0, 0), f.pieces(0, 1), f.pieces(0, 2)}, 1, 16, 0);
        Due.row("n 3: all", new int[] {f.pieces(3, 0), f.pieces(3, 1), f.pieces(3, 2)}, 1, 16, 0);
        Due.row("n 4: all but 16", new int[] {f.pieces(4, 0), f.pieces(4, 1), f.pieces(4, 2)}, 1, 15, 0);
        // of 7 or more are 1, 2, 5, 7, 12, 14; 1, 2, 5, 14, 12 hang together, 7 by 14
        Due.row("n 7", new int[] {f.pieces(7, 0), f.pieces(7, 1), f.pieces(7, 2)}, 1, 6, 1);
        Due.row("n 8", new int[] {f.pieces(8, 0), f.pieces(8, 1), f.pieces(8, 2)}, 1, 1, 12);
        Due.says("pieces() where no CELL has n: 0, 0, NONE");
        Due.row("n 9", new int[] {f.pieces(9, 0), f.pieces(9, 1), f.pieces(9, 2)}, 0, 0, -1);
        Due.row("n as great as may be", new int[] {f.pieces(MOST, 0), f.pieces(MOST, 1), f.pieces(MOST, 2)}, 0, 0, -1);
        Due.says("the largest; of several the least");
        // 0 brings 6 and 31 to 7 SIDES, 42 brings 9 and 20
        f = Due.swapped(Due.ring(6, 6), 0, 42);
        Due.row("two of two", new int[] {f.pieces(7, 0), f.pieces(7, 1), f.pieces(7, 2)}, 2, 2, 6);
        // 21 brings 2 and 13
        f = Due.swapped(Due.ring(6, 6), 0, 21);
        Due.row("two of two", new int[] {f.pieces(7, 0), f.pieces(7, 1), f.pieces(7, 2)}, 2, 2, 2);
        // the CUT brings 1 and 5, which lie apart
        f = Due.swapped(Due.ring(6, 6), 42);
        f.cut(0, 0, 3);
        Due.row("two of one, then one of two", new int[] {f.pieces(7, 0), f.pieces(7, 1), f.pieces(7, 2)}, 3, 2, 9);
    }

    private static void all() {
        Due.says("all: what 0 .. 9. Integer.MIN_VALUE: others");
        int lengths = 0;
        for (int w = 0; w < 51; w++) {
            lengths += Math.max(0, Due.lively().wall(w, 4));
        }
        Due.row("all(-1 .. 10)", Due.each(-1, 10, what -> Due.lively().all(what)),
            NO, 9 + 4 * 1 + 5 * 1 + 4, 0, 50 + 245 + 552 + 448 + 200, 200, -5, lengths, 0, canBe(), 8, 3, NO);
        Due.row("all(..)", new int[] {Due.lively().all(NO), Due.lively().all(MOST)}, NO, NO);
        Due.says("all TURNS together are 0, whatever happens");
        Due.row("ring, full, lively", new int[] {Due.ring(3, 3).all(1), Due.full().all(1), Due.lively().all(1)}, 0, 0, 0);
        Due.says("the greatest AREA below 0; the least above 0");
        FoamCells f = new FoamCells();
        for (int c = 0; c < 16; c++) {
            f.area(c, -999 + c);
        }
        Due.row("all(2), (3), (4)", new int[] {f.all(2), f.all(3), f.all(4)}, -999 * 16 + 120, -984, -999);
        for (int c = 0; c < 16; c++) {
            f.area(c, 9999 - c);
        }
        Due.row("all(2), (3), (4)", new int[] {f.all(2), f.all(3), f.all(4)}, 9999 * 16 - 120, 9999, 9984);
        Due.says("the most SIDES (8), the fewest (9): those of CELL 0 alone, of the last one alone");
        f = new FoamCells();
        f.burst(9);
        Due.row("0 has 8", new int[] {f.cell(0, 0), f.all(8), f.kind(8, 0)}, 8, 8, 1);
        f = Due.swapped(new FoamCells(), 0, 1);
        Due.row("0 has 4", new int[] {f.cell(0, 0), f.all(9), f.kind(4, 0)}, 4, 4, 1);
        f = Due.full();
        f.burst(143);
        Due.row("46 has 3", new int[] {f.cell(46, 0), f.all(9)}, 3, 3);
        f = new FoamCells();
        Due.says("all LENGTHS, each 0 or 99");
        Due.lengthen(f, 0);
        Due.due("all(5)", f.all(5), 0);
        f = new FoamCells();
        Due.lengthen(f, 99);
        Due.due("all(5)", f.all(5), 48 * 99);
        Due.says("1 if it is at REST, else 0");
        Due.row("a ring, one swap", new int[] {new FoamCells().all(6), Due.swapped(new FoamCells(), 0).all(6)}, 1, 0);
    }

    private static int canBe() {
        int many = 0;
        for (int w = 0; w < 51; w++) {
            many += Due.lively().wall(w, 5) == 1 ? 1 : 0;
        }
        return many;
    }

    private static void easiest() {
        Due.says("easiest: NONE: it is at REST");
        Due.row("rings", new int[] {new FoamCells().easiest(), Due.ring(3, 3).easiest(), Due.ring(6, 6).easiest()},
            -1, -1, -1);
        Due.says("there is one that can be SWAPPED: one that can't is not taken, whatever its CELLS have");
        FoamCells f = Due.swapped(Due.ring(3, 3), 5, 19, 7, 23, 6, 22);
        Due.due("8 can't", f.wall(8, 5), 0);
        Due.due("by the sides about them 8 comes ahead of 9", Due.growth(f, 8) <= Due.growth(f, 9), true);
        Due.due("easiest()", f.easiest(), 9);
        Due.says("the WALL that RELAXED would take first");
        for (int seed = 0; seed < 30; seed++) {
            f = Due.ring(3 + seed % 4, 4);
            f.shake(seed, 30, 99);
            int told = f.easiest();
            Due.due("as resting() says", f.resting(0) == 0, told < 0);
            int many = f.relax();
            if (many > 0 && many <= 30) {
                Due.due("the first in the log", f.log(many - 1, 2), told);
            }
        }
    }

    private static void log() {
        Due.says("log: the i-th of the LOG, the latest first: what (0), STEPS (1), number (2). NONE: others");
        Due.row("log(-1 .. 7, 0)", Due.each(-1, 7, i -> Due.lively().log(i, 0)), -1, 0, 3, 1, 2, 2, 0, 0, -1);
        Due.row("log(-1 .. 7, 1)", Due.each(-1, 7, i -> Due.lively().log(i, 1)), -1, 2, 2, 2, 2, 2, 2, 1, -1);
        Due.row("log(-1 .. 7, 2)", Due.each(-1, 7, i -> Due.lively().log(i, 2)), -1, 30, 45, 17, 8, 5, 0, 0, -1);
        Due.row("log(0, -1 .. 3)", Due.each(-1, 3, what -> Due.lively().log(0, what)), -1, 0, 2, 30, -1);
        FoamCells f = Due.lively();
        Due.row("log(..)", new int[] {f.log(NO, 0), f.log(MOST, 0), f.log(0, NO), f.log(0, MOST)}, -1, -1, -1, -1);
        Due.row("an empty one", new int[] {new FoamCells().log(0, 0), new FoamCells().log(-1, 0)}, -1, -1);
        Due.says("the last 30: 29 of them, 30, 31, 60, 61");
        for (int many : new int[] {29, 30, 31, 59, 60, 61}) {
            f = new FoamCells();
            for (int k = 0; k < many; k++) {
                f.swap(k % 2 == 0 ? 0 : 30);
            }
            int size = Math.min(30, many);
            Due.due("length of " + many, f.count(10), size);
            for (int i = 0; i < size; i++) {
                Due.due("log(" + i + ", 2) of " + many, f.log(i, 2), (many - 1 - i) % 2 == 0 ? 0 : 30);
            }
            Due.row("behind it", new int[] {f.log(size, 0), f.log(size, 1), f.log(size, 2)}, -1, -1, -1);
        }
        Due.says("the LOG is kept, too, when it has come round");
        f = new FoamCells();
        for (int k = 0; k < 37; k++) {
            f.swap(k % 3 == 0 ? 0 : 30);
        }
        f.keep(0);
        f.ring(4, 4);
        f.swap(7);
        f.again(0);
        for (int i = 0; i < 30; i++) {
            Due.due("log(" + i + ", 2)", f.log(i, 2), (36 - i) % 3 == 0 ? 0 : 30);
        }
    }

    private static void count() {
        Due.says("count: 0 .. 15. NONE: others");
        Due.row("count(-1 .. 16)", Due.each(-1, 16, what -> Due.lively().count(what)),
            -1, 16, 48, 32, 2, 3, 1, 2, 4, 4, 2, 7, 1, 1, 1, 0, 1, -1);
        Due.row("count(..)", new int[] {Due.lively().count(NO), Due.lively().count(MOST)}, -1, -1);
        Due.row("of a full one", Due.each(0, 2, what -> Due.full().count(what)), 48, 144, 96);
        Due.says("SWAPS so far: by swap(), shake(), steps(), relax()");
        FoamCells f = new FoamCells();
        f.swap(30);
        Due.due("swap", f.count(4), 1);
        f.shake(2, 1, 99);
        Due.due("shake", f.count(4), 2);
        Due.due("relax()", f.relax(), 2);
        Due.due("relax", f.count(4), 4);
        f.length(0, 0);
        f.steps(1);
        Due.due("steps", f.count(4), 5);
        Due.says("CELLS VANISHED: by vanish(), steps()");
        f.cut(10, 0, 1);
        f.vanish(16);
        Due.due("vanish", f.count(5), 1);
        f.cut(10, 0, 1);
        Due.lengthen(f, 99);
        f.area(16, 0);
        f.steps(1);
        Due.row("steps", new int[] {f.count(5), f.count(6)}, 2, 2);
    }

    /** Every ask with a CELL, a WALL that is not there. */
    private static void noSuch() {
        Due.says("NONE: no such CELL");
        for (int c : Due.NO_CELLS) {
            FoamCells f = Due.lively();
            Due.row("of " + c, new int[] {f.around(c, 0, 0), f.around(c, 1, 0), f.spans(c, 3, 0), f.spans(c, 3, 1),
                f.spans(c, 99, 0), f.reach(c, 6, 0), f.reach(c, 0, 0), f.reach(c, 6, 1), f.gone(c)},
                -1, -1, -1, -1, -1, -1, -1, -1, -1);
        }
    }

    private static void changesNothing() {
        Due.says("an ask changes nothing, and is never REFUSED");
        leaves("cell", f -> f.cell(12, 4));
        leaves("side", f -> f.side(12, 3, 2));
        leaves("wall", f -> f.wall(38, 6));
        leaves("between", f -> f.between(3, 12, 1));
        leaves("far", f -> f.far(16, 12));
        leaves("shell", f -> f.shell(12, 1));
        leaves("shellOf", f -> f.shellOf(12, 1, 2));
        leaves("way", f -> f.way(16, 12, 1));
        leaves("mutual", f -> f.mutual(3, 12));
        leaves("about", f -> f.about(7, 0));
        leaves("kind", f -> f.kind(7, 2));
        leaves("pairs", f -> f.pairs(7, 5));
        leaves("ranked", f -> f.ranked(3));
        leaves("around", f -> f.around(12, 1, -1));
        leaves("rounds", f -> f.rounds(38, 0));
        leaves("spans", f -> f.spans(12, 6, 1));
        leaves("pieces", f -> f.pieces(7, 1));
        leaves("all", f -> f.all(7));
        leaves("easiest", FoamCells::easiest);
        leaves("lowest", f -> f.lowest(2));
        leaves("reach", f -> f.reach(12, 6, 1));
        leaves("alike", FoamCells::alike);
        leaves("until", f -> f.until(12));
        leaves("rested", f -> f.rested(5, 3, 20, 20, 1));
        leaves("resting", f -> f.resting(0));
        leaves("later", f -> f.later(50, 2));
        leaves("gone", f -> f.gone(11));
        leaves("first", f -> f.first(1));
        leaves("log", f -> f.log(1, 2));
        leaves("count", f -> f.count(11));
        Due.says("an ask leaves what is kept");
        FoamCells f = Due.lively();
        f.keep(0);
        f.until(0);
        f.rested(5, 3, 20, 20, 1);
        f.later(50, 0);
        f.lowest(2);
        f.again(0);
        Due.row("counts", Due.each(0, 10, f::count), 16, 48, 32, 2, 3, 1, 2, 4, 4, 2, 7);
    }

    private static void leaves(String name, Due.Call ask) {
        Due.leaves(name, Due::lively, ask, ask.on(Due.lively()));
    }
}
