/** REFUSED calls, and the sentences of promises 1 to 14 and of IN FULL about calls that change the foam. */
public final class ChangesTest {
    private static final int NO = Due.NO;
    private static final int MOST = Due.MOST;

    public static void main(String[] args) {
        aNewObject();
        order();
        ring();
        rate();
        area();
        length();
        swap();
        vanish();
        cut();
        burst();
        shake();
        steps();
        relax();
        keeping();
        lastCall();
        Due.end();
    }

    private static void aNewObject() {
        Due.says("FoamCells(): A RING of 4 by 4");
        Due.text("a new one is as ring(4, 4) makes it", Due.picture(FoamCells::new, f -> 0),
            Due.picture(FoamCells::new, f -> f.ring(4, 4)));
        FoamCells f = new FoamCells();
        Due.row("count", Due.each(-1, 16, f::count), -1, 16, 48, 32, 0, 0, 0, 0, 4, 4, 1, 0, 0, 0, 0, 0, 0, -1);
        Due.due("again(0)", f.again(0), false);
        Due.due("again(1)", f.again(1), false);
        Due.due("NONE", FoamCells.NONE, -1);
        Due.says("two objects have nothing in common");
        FoamCells g = new FoamCells();
        f.swap(0);
        f.rate(3);
        f.keep(0);
        Due.row("the other one", new int[] {g.count(4), g.all(0), g.count(9), g.again(0) ? 1 : 0}, 0, 0, 1, 0);
    }

    private static void order() {
        Due.says("REFUSED: the first of these in that order: -1 ahead of -2");
        Due.refused("area(48, 10000)", Due::lively, f -> f.area(48, 10000), -1);
        Due.refused("area(-1, -1000)", Due::lively, f -> f.area(-1, -1000), -1);
        Due.refused("length(144, 100)", Due::lively, f -> f.length(144, 100), -1);
        Due.refused("length(-1, -1)", Due::lively, f -> f.length(-1, -1), -1);
        Due.says("cut: -2 (asked ahead of that)");
        Due.refused("cut(48, 0, 0)", Due::lively, f -> f.cut(48, 0, 0), -2);
        Due.refused("cut(-1, -1, 99)", Due::lively, f -> f.cut(-1, -1, 99), -2);
        Due.says("-4 behind all others");
        Due.refused("cut(48, 0, 1), full", Due::full, f -> f.cut(48, 0, 1), -2);
        Due.refused("cut(0, 1, 1), full", Due::full, f -> f.cut(0, 1, 1), -1);
        Due.refused("cut(20, 0, 6), full", Due::full, f -> f.cut(20, 0, 6), -1);
        Due.refused("cut(20, 0, 5), full", Due::full, f -> f.cut(20, 0, 5), -4);
        Due.says("how many calls were REFUSED by -1 .. -4, each by its own number");
        FoamCells f = Due.full();
        f.rate(10);
        f.area(48, 0);
        f.swap(144);
        f.vanish(20);
        f.vanish(20);
        f.vanish(20);
        f.cut(20, 0, 1);
        f.cut(20, 0, 1);
        f.cut(20, 0, 1);
        f.cut(20, 0, 1);
        Due.row("counts", Due.each(11, 14, f::count), 1, 2, 3, 4);
        Due.says("REFUSED are calls that answer -1 .. -4; NONE, false, others are none");
        f = new FoamCells();
        f.keep(2);
        f.keep(-1);
        f.again(2);
        f.again(0);
        Due.cell(f, 48, 0);
        Due.side(f, 48, 0, 0);
        Due.row("none", new int[] {f.cell(0, 9), f.side(0, 9, 0), f.wall(48, 0), f.between(0, 0, 0), f.far(0, 16),
            f.shell(0, -1), f.shellOf(0, 0, 1), f.way(0, 1, 2), f.mutual(0, 0), f.about(5, 0), f.kind(6, 3),
            f.ranked(16), f.around(0, 2, 0), f.rounds(0, 2), f.spans(16, 6, 0), f.pieces(-1, 0), f.all(10),
            f.easiest(), f.lowest(3), f.reach(0, 3, 0), f.until(0), f.rested(-1, 1, 1, 0, 0), f.resting(2),
            f.later(51, 0), f.gone(16), f.first(2), f.log(0, 0), f.count(16)},
            NO, -1, -1, -1, -1, -1, -1, -1, -1, -1, NO, -1, -1, NO, -1, -1, NO, -1, -1, -1, -1, -1, -1, NO, -1, -1, -1,
            -1);
        Due.row("counts", Due.each(11, 14, f::count), 0, 0, 0, 0);
    }

    private static void ring() {
        Due.says("ring: -1");
        for (int[] wh : new int[][] {{2, 3}, {3, 2}, {7, 6}, {6, 7}, {0, 0}, {-3, -3}, {NO, 3}, {3, MOST}}) {
            Due.refused("ring(" + wh[0] + ", " + wh[1] + ")", Due::lively, f -> f.ring(wh[0], wh[1]), -1);
        }
        Due.says("ring: how many CELLS");
        FoamCells f = new FoamCells();
        Due.row("least, greatest", new int[] {f.ring(3, 3), f.ring(3, 6), f.ring(6, 3), f.ring(6, 6)}, 9, 18, 18, 36);
        Due.says("ring() makes counts 3 to 6, 10 and 15 0; how many were REFUSED, RATE stay");
        f = Due.lively();
        Due.row("counts ahead", Due.each(0, 15, f::count), 16, 48, 32, 2, 3, 1, 2, 4, 4, 2, 7, 1, 1, 1, 0, 1);
        Due.due("ring(5, 3)", f.ring(5, 3), 15);
        Due.row("counts behind", Due.each(0, 15, f::count), 15, 45, 30, 0, 0, 0, 0, 5, 3, 2, 0, 1, 1, 1, 0, 0);
        Due.row("log", Due.log(f, 0), -1, -1, -1);
        Due.says("as at first: nothing of what was is left");
        Due.text("ring(6, 6) of a full one", Due.picture(Due::full, g -> g.ring(6, 6)),
            Due.picture(() -> Due.ring(6, 6), g -> 0));
        Due.text("ring(3, 3) of a full one", Due.picture(Due::full, g -> g.ring(3, 3)),
            Due.picture(() -> Due.ring(3, 3), g -> 0));
        Due.says("ring(): what is kept stays");
        f = Due.lively();
        f.ring(6, 6);
        Due.due("again(1)", f.again(1), true);
        Due.row("as kept", Due.each(0, 10, f::count), 16, 48, 32, 2, 2, 0, 0, 4, 4, 2, 2);
    }

    private static void rate() {
        Due.says("rate (0 .. 9): what it was. -1");
        for (int rate : new int[] {NO, -1, 10, MOST}) {
            Due.refused("rate(" + rate + ")", Due::lively, f -> f.rate(rate), -1);
        }
        FoamCells f = new FoamCells();
        Due.due("rate(0): 1 at first", f.rate(0), 1);
        for (int rate = 1; rate <= 9; rate++) {
            Due.due("rate(" + rate + ")", f.rate(rate), rate - 1);
            Due.due("count(9)", f.count(9), rate);
        }
        Due.says("RATE 0: no AREA changes by a STEP; 9: by nine times the SIDES less 6");
        f = Due.swapped(new FoamCells(), 0);
        f.rate(0);
        f.steps(1);
        Due.row("areas of 0, 4, 9", new int[] {f.cell(0, 1), f.cell(4, 1), f.cell(9, 1)}, 100, 100, 100);
        f.rate(9);
        f.steps(1);
        Due.row("areas of 0, 4, 9", new int[] {f.cell(0, 1), f.cell(4, 1), f.cell(9, 1)}, 91, 109, 100);
    }

    private static void area() {
        Due.says("area: AREA (-999 .. 9,999). -1");
        for (int area : new int[] {NO, -1000, 10000, MOST}) {
            Due.refused("area(0, " + area + ")", Due::lively, f -> f.area(0, area), -1);
        }
        FoamCells f = new FoamCells();
        Due.row("area(15, ..)", new int[] {f.area(15, -999), f.area(15, 9999), f.area(15, 0), f.area(15, -1),
            f.area(15, 1), f.cell(15, 1), f.cell(14, 1)}, 100, -999, 9999, 0, -1, 1, 100);
        Due.row("not refused, though it was -1", Due.each(11, 14, f::count), 0, 0, 0, 0);
        Due.says("area: what it was may lie beyond what it takes");
        f = Due.swapped(new FoamCells(), 0, 1, 2);
        f.area(0, 9999);
        f.area(3, 9999);
        f.vanish(0);
        Due.due("area(3, 5)", f.area(3, 5), 19998);
        Due.says("area: -2 no such CELL");
        for (int cell : Due.NO_CELLS) {
            Due.refused("area(" + cell + ", 0)", Due::lively, g -> g.area(cell, 0), -2);
        }
        f = Due.full();
        Due.row("least and greatest number", new int[] {f.area(0, 7), f.area(47, 8), f.cell(0, 1), f.cell(47, 1)},
            50, 50, 7, 8);
    }

    private static void length() {
        Due.says("length: LENGTH of a WALL (0 .. 99). -1");
        for (int length : new int[] {NO, -1, 100, MOST}) {
            Due.refused("length(0, " + length + ")", Due::lively, f -> f.length(0, length), -1);
        }
        FoamCells f = new FoamCells();
        Due.row("length(47, ..)", new int[] {f.length(47, 0), f.length(47, 99), f.length(47, 50), f.wall(47, 4),
            f.wall(46, 4)}, 10, 0, 99, 50, 10);
        Due.says("length: -2 no such WALL");
        for (int wall : Due.NO_WALLS) {
            Due.refused("length(" + wall + ", 0)", Due::lively, g -> g.length(wall, 0), -2);
        }
        // 0 was halved with CELL 0, to 5, then with CELL 1, to 3
        f = Due.full();
        Due.row("least and greatest number", new int[] {f.length(0, 7), f.length(143, 8), f.wall(0, 4),
            f.wall(143, 4)}, 3, 10, 7, 8);
    }

    private static void swap() {
        Due.says("swap: -2");
        for (int wall : Due.NO_WALLS) {
            Due.refused("swap(" + wall + ")", Due::lively, f -> f.swap(wall), -2);
        }
        Due.says("swap: -3");
        Due.refused("swap(48): 16 has 3 sides", ChangesTest::threeAtFive, f -> f.swap(48), -3);
        Due.refused("swap(50): 16 has 3 sides", ChangesTest::threeAtFive, f -> f.swap(50), -3);
        Due.refused("swap(1): not four cells", ChangesTest::oneEnd, f -> f.swap(1), -3);
        Due.says("swap: by how much STRAIN is less (may be below 0) and 1,000");
        FoamCells f = new FoamCells();
        for (int w : new int[] {0, 1, 2, 2, 1, 0, 47, 11, 30}) {
            int before = f.all(0);
            int told = f.wall(w, 6);
            int got = f.swap(w);
            Due.due("swap(" + w + ")", got, 1000 + before - f.all(0));
            Due.due("wall(" + w + ", 6) ahead of it", told, got);
        }
        Due.row("counted and logged", new int[] {f.count(4), f.count(10), f.log(0, 0), f.log(0, 2)}, 9, 9, 0, 30);
        Due.says("least and greatest WALL");
        f = Due.full();
        Due.due("swap(143): 47 has 3 sides", f.swap(143), -3);
        f = Due.ring(6, 6);
        Due.row("swap", new int[] {f.swap(107), f.swap(0), f.swap(108)}, 996, 996, -2);
    }

    private static FoamCells threeAtFive() {
        FoamCells f = new FoamCells();
        f.cut(5, 0, 1);
        return f;
    }

    /** Both ENDS of 1 are one CELL. */
    private static FoamCells oneEnd() {
        return Due.swapped(Due.ring(3, 3), 4, 2, 5);
    }

    /** 0 has 3 SIDES, and so has 12, its neighbour. */
    private static FoamCells twoOfThree() {
        return Due.swapped(new FoamCells(), 0, 1, 2, 25, 29, 45);
    }

    private static void vanish() {
        Due.says("vanish: -2");
        for (int cell : Due.NO_CELLS) {
            Due.refused("vanish(" + cell + ")", Due::lively, f -> f.vanish(cell), -2);
        }
        Due.says("vanish: -3 (it has not 3 SIDES, too)");
        Due.refused("vanish(0): 6", FoamCells::new, f -> f.vanish(0), -3);
        Due.refused("vanish(0): 5", () -> Due.swapped(new FoamCells(), 0), f -> f.vanish(0), -3);
        Due.refused("vanish(0): 4", () -> Due.swapped(new FoamCells(), 0, 1), f -> f.vanish(0), -3);
        Due.refused("vanish(13): 8", () -> Due.swapped(new FoamCells(), 0, 1), f -> f.vanish(13), -3);
        Due.refused("vanish(0): a neighbour has 3", ChangesTest::twoOfThree, f -> f.vanish(0), -3);
        Due.refused("vanish(12): a neighbour has 3", ChangesTest::twoOfThree, f -> f.vanish(12), -3);
        Due.says("vanish: the neighbour to which its AREA came");
        FoamCells f = threeAtFive();
        f.area(2, 101);
        Due.due("vanish(16)", f.vanish(16), 2);
        Due.row("counted and logged", new int[] {f.cell(2, 1), f.count(5), f.log(0, 0), f.log(0, 1), f.log(0, 2)},
            151, 1, 1, 0, 16);
        Due.says("vanish: of CELL 0 and to CELL 0, the least number");
        Due.due("vanish(0)", Due.swapped(new FoamCells(), 0, 1, 2).vanish(0), 3);
        f = new FoamCells();
        f.cut(0, 0, 1);
        f.area(0, 100);
        Due.due("vanish(16)", f.vanish(16), 0);
        Due.due("area of 0", f.cell(0, 1), 150);
    }

    private static void cut() {
        Due.says("cut: -1 (like ones, no such SIDES)");
        for (int[] ij : new int[][] {{0, 0}, {5, 5}, {6, 6}, {-1, -1}, {-1, 0}, {0, -1}, {6, 0}, {0, 6}, {5, 6},
            {NO, 0}, {0, MOST}, {MOST, NO}}) {
            Due.refused("cut(8, " + ij[0] + ", " + ij[1] + ")", FoamCells::new, f -> f.cut(8, ij[0], ij[1]), -1);
        }
        for (int[] ij : new int[][] {{2, 2}, {3, 0}, {0, 3}, {-1, 2}}) {
            Due.refused("cut(16, " + ij[0] + ", " + ij[1] + ")", ChangesTest::threeAtFive,
                f -> f.cut(16, ij[0], ij[1]), -1);
        }
        Due.says("cut: the least and the last SIDE");
        Due.row("cut(8, ..)", new int[] {new FoamCells().cut(8, 0, 5), new FoamCells().cut(8, 5, 0),
            threeAtFive().cut(16, 0, 2), threeAtFive().cut(16, 2, 0)}, 16, 16, 17, 17);
        Due.says("cut: -2");
        for (int cell : Due.NO_CELLS) {
            Due.refused("cut(" + cell + ", 0, 1)", Due::lively, f -> f.cut(cell, 0, 1), -2);
        }
        Due.says("cut: -4, 48 CELLS at most");
        Due.refused("cut(0, 0, 1)", Due::full, f -> f.cut(0, 0, 1), -4);
        FoamCells f = Due.full();
        Due.due("vanish(47) is done", f.vanish(47) >= 0, true);
        Due.due("one has gone: its number is free", f.cut(30, 0, 1), 47);
        Due.due("full again", f.cut(30, 0, 1), -4);
        Due.due("cuts", f.count(6), 13);
    }

    private static void burst() {
        Due.says("burst: -2");
        for (int wall : Due.NO_WALLS) {
            Due.refused("burst(" + wall + ")", Due::lively, f -> f.burst(wall), -2);
        }
        Due.says("burst: -3");
        Due.refused("burst(1): not four cells", ChangesTest::oneEnd, f -> f.burst(1), -3);
        Due.refused("burst(1): another wall", () -> Due.swapped(Due.ring(3, 3), 0, 1), f -> f.burst(1), -3);
        Due.refused("burst(4): an end of 3 sides", ChangesTest::threeAtFive, f -> f.burst(4), -3);
        Due.refused("burst(53): 6 sides together", ChangesTest::sixTogether, f -> f.burst(53), -3);
        Due.says("burst: the CELL that is left");
        FoamCells f = new FoamCells();
        Due.due("burst(45): of 15 and 12", f.burst(45), 12);
        Due.row("counted and logged", new int[] {f.count(0), f.count(15), f.count(10), f.log(0, 0), f.log(0, 1),
            f.log(0, 2)}, 15, 1, 1, 3, 0, 45);
        Due.says("burst until nothing can: three CELLS at least are left");
        f = Due.ring(3, 3);
        for (int round = 0; round < 8; round++) {
            for (int w = 0; w < 27; w++) {
                f.burst(w);
            }
        }
        Due.due("cells", f.count(0) >= 3, true);
        Due.row("three walls a cell, two meetings", new int[] {f.count(1), f.count(2), f.all(1)}, 3 * f.count(0),
            2 * f.count(0), 0);
    }

    private static FoamCells sixTogether() {
        FoamCells f = threeAtFive();
        f.cut(16, 0, 1);
        return Due.swapped(f, 50);
    }

    private static void shake() {
        Due.says("shake (SEED 0 .. 999,999, n 1 .. 99, h 0 .. 99): -1");
        for (int[] a : new int[][] {{-1, 1, 0}, {1000000, 1, 0}, {0, 0, 0}, {0, 100, 0}, {0, 1, -1}, {0, 1, 100},
            {NO, 50, 50}, {MOST, 50, 50}, {5, NO, 50}, {5, MOST, 50}, {5, 50, NO}, {5, 50, MOST}}) {
            Due.refused("shake(" + a[0] + ", " + a[1] + ", " + a[2] + ")", Due::lively,
                f -> f.shake(a[0], a[1], a[2]), -1);
        }
        Due.says("SHAKEN n times: by 1 the first DRAW alone, by 99 the 99th too");
        // SEED 0 draws WALL 105 first
        FoamCells f = Due.ring(6, 6);
        Due.row("shake(0, 1, 99)", new int[] {f.shake(0, 1, 99), f.count(4), f.log(0, 2)}, 1, 1, 105);
        int seed = lastDrawn();
        f = Due.ring(6, 6);
        FoamCells g = Due.ring(6, 6);
        Due.due("one swap more by 99 than by 98", f.shake(seed, 99, 99) - g.shake(seed, 98, 99), 1);
        Due.says("how many SWAPS");
        Due.due("count(4)", f.count(4) - g.count(4), 1);
        Due.says("its EASING is not below -h: by h 0 and 99");
        f = new FoamCells();
        Due.row("shake(2, 1, ..)", new int[] {f.shake(2, 1, 0), f.shake(2, 1, 99)}, 0, 1);
        shakeFar();
    }

    /** A SEED whose 99th DRAW is a WALL that is SWAPPED. */
    private static int lastDrawn() {
        for (int seed = 0; seed < 1000; seed++) {
            if (Due.ring(6, 6).shake(seed, 99, 99) > Due.ring(6, 6).shake(seed, 98, 99)) {
                return seed;
            }
        }
        return -1;
    }

    private static void shakeFar() {
        Due.says("its EASING is not below -h: -98 and -100 by the greatest h");
        Due.row("easing of 29, 32", new int[] {sliced().wall(29, 6), sliced().wall(32, 6)}, 902, 900);
        Due.row("29, by h 97 to 99", Due.each(97, 99, h -> sliced().shake(Due.seedOf(29), 1, h)), 0, 1, 1);
        Due.row("32, by h 98, 99", Due.each(98, 99, h -> sliced().shake(Due.seedOf(32), 1, h)), 0, 0);
    }

    /** CELL 4 is cut into 23 slices between two of its neighbours, which have many SIDES then. */
    private static FoamCells sliced() {
        FoamCells f = Due.ring(3, 3);
        int one = f.side(4, 0, 1);
        int other = f.side(4, 3, 1);
        for (int k = 0; k < 22; k++) {
            f.cut(4, sideTo(f, one), sideTo(f, other));
        }
        return f;
    }

    private static int sideTo(FoamCells f, int other) {
        int i = 0;
        while (f.side(4, i, 1) != other) {
            i++;
        }
        return i;
    }

    private static void steps() {
        Due.says("steps (1 .. 50): -1");
        for (int n : new int[] {NO, -1, 0, 51, MOST}) {
            Due.refused("steps(" + n + ")", Due::lively, f -> f.steps(n), -1);
        }
        Due.says("n STEPS");
        FoamCells f = Due.swapped(new FoamCells(), 0);
        Due.lengthen(f, 99);
        f.area(0, 9999);
        f.area(1, 9999);
        f.length(0, 99);
        Due.due("steps(1)", f.steps(1), 0);
        Due.row("steps, area, length", new int[] {f.count(3), f.cell(0, 1), f.wall(0, 4)}, 1, 9998, 95);
        f.ring(4, 4);
        Due.due("steps(50) of a ring", f.steps(50), 0);
        Due.due("count(3)", f.count(3), 50);
        Due.says("fifty STEPS are fifty times one");
        for (int seed = 0; seed < 12; seed++) {
            int s = seed;
            Due.text("seed " + seed, Due.picture(() -> restless(s), g -> g.steps(50)),
                Due.picture(() -> restless(s), ChangesTest::fiftyTimesOne));
            FoamCells a = restless(s);
            FoamCells b = restless(s);
            int swapsBefore = a.count(4) + a.count(5);
            int got = a.steps(50);
            Due.due("how many SWAPS and CELLS VANISHED, together", got, fiftyTimesOne(b));
            Due.due("by the counts", got, a.count(4) + a.count(5) - swapsBefore);
        }
    }

    private static int fiftyTimesOne(FoamCells f) {
        int many = 0;
        for (int k = 0; k < 50; k++) {
            many += f.steps(1);
        }
        return many;
    }

    private static FoamCells restless(int seed) {
        FoamCells f = Due.ring(3 + seed % 4, 3 + seed / 4);
        f.cut(seed % 9, 0, 1);
        f.cut((seed + 4) % 9, 2, 0);
        f.shake(seed, 20, 99);
        f.rate(seed % 10);
        return f;
    }

    private static void relax() {
        Due.says("relax(): how many SWAPS; none at REST");
        Due.leaves("relax() of a ring", FoamCells::new, FoamCells::relax, 0);
        Due.says("RELAXED: that of the greatest EASING, of like ones of the least number, one behind the other");
        for (int seed = 0; seed < 12; seed++) {
            int s = seed;
            int[] walls = relaxedByHand(s);
            Due.text("seed " + seed, Due.picture(() -> restless(s), FoamCells::relax),
                Due.picture(() -> restless(s), f -> Due.swapped(f, walls).count(0)));
            Due.due("how many", restless(s).relax(), walls.length);
        }
    }

    /** The WALLS one behind the other, by what wall() tells of each one. */
    private static int[] relaxedByHand(int seed) {
        int[] walls = new int[0];
        while (true) {
            FoamCells f = Due.swapped(restless(seed), walls);
            int best = -1;
            int most = 1000;
            for (int w = 0; w < 144; w++) {
                int told = f.wall(w, 6);
                if (told > most) {
                    most = told;
                    best = w;
                }
            }
            if (best < 0) {
                return walls;
            }
            walls = java.util.Arrays.copyOf(walls, walls.length + 1);
            walls[walls.length - 1] = best;
        }
    }

    private static void keeping() {
        Due.says("keep (0, 1): true; false: others");
        for (int k : new int[] {NO, -1, 2, MOST}) {
            Due.leaves("keep(" + k + ")", Due::lively, f -> f.keep(k) ? 1 : 0, 0);
            Due.leaves("again(" + k + ")", Due::lively, f -> f.again(k) ? 1 : 0, 0);
        }
        Due.leaves("keep(0)", Due::lively, f -> f.keep(0) ? 1 : 0, 1);
        Due.leaves("keep(1)", Due::lively, f -> f.keep(1) ? 1 : 0, 1);
        Due.says("again: false: nothing kept");
        Due.leaves("again(0): only 1 is kept", Due::lively, f -> f.again(0) ? 1 : 0, 0);
        Due.says("All is kept: it is as it was kept");
        for (int k = 0; k < 2; k++) {
            int at = k;
            Due.text("again(" + k + ")", Due.picture(Due::lively, f -> awayAndBack(f, at)),
                Due.picture(Due::lively, f -> 0));
        }
        Due.says("keep() keeps REFUSED counts, RATE, W, H, too, again() brings them back");
        FoamCells f = Due.lively();
        awayAndBack(f, 0);
        Due.row("counts", Due.each(0, 15, f::count), 16, 48, 32, 2, 3, 1, 2, 4, 4, 2, 7, 1, 1, 1, 0, 1);
        FoamCells g = Due.full();
        g.cut(0, 0, 1);
        g.keep(1);
        g.cut(0, 0, 1);
        g.ring(3, 3);
        g.again(1);
        Due.row("refused by -4", Due.each(11, 14, g::count), 0, 0, 0, 1);
        Due.says("what is kept stays: it comes again more than once, whatever has been");
        for (int k = 0; k < 3; k++) {
            f.swap(f.easiest());
            f.steps(9);
            f.ring(3, 3);
            Due.due("again(0)", f.again(0), true);
            Due.row("counts", Due.each(0, 9, f::count), 16, 48, 32, 2, 3, 1, 2, 4, 4, 2);
        }
        Due.says("two are kept, each under its own; a later keep writes over the earlier one alone");
        f = new FoamCells();
        f.keep(0);
        f.swap(0);
        f.keep(1);
        f.swap(30);
        f.keep(0);
        f.ring(3, 3);
        Due.due("again(1)", f.again(1), true);
        Due.due("swaps", f.count(4), 1);
        Due.due("again(0)", f.again(0), true);
        Due.due("swaps", f.count(4), 2);
        Due.says("again() leaves what is kept under the other");
        f.again(1);
        Due.due("swaps", f.count(4), 1);
    }

    private static int awayAndBack(FoamCells f, int k) {
        f.keep(k);
        f.rate(7);
        f.rate(-1);
        f.area(1, -999);
        f.length(0, 99);
        f.swap(-1);
        f.vanish(1);
        f.cut(7, 0, 2);
        f.shake(3, 40, 99);
        f.steps(7);
        f.burst(20);
        f.relax();
        f.ring(6, 5);
        f.cut(7, 0, 2);
        return f.again(k) ? 1 : 0;
    }

    private static void lastCall() {
        Due.says("An object is used for at most 512 calls after it has been made");
        FoamCells f = new FoamCells();
        for (int k = 1; k < 511; k++) {
            f.swap(0);
        }
        Due.due("the 511th", f.count(4), 510);
        Due.due("the 512th", f.swap(0), 996);
    }
}
