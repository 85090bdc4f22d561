/** The sentences of "Terms", I and II, that name a boundary case: each has its own test, named by its words. */
public final class TermsTest {
    private static final int[][] TO = {{1, 0}, {0, 1}, {-1, 1}, {-1, 0}, {0, -1}, {1, -1}};

    public static void main(String[] args) {
        rings();
        numbers();
        rows();
        swaps();
        vanishing();
        cutting();
        bursting();
        rounds();
        growing();
        stretching();
        shortest();
        smallest();
        easing();
        logging();
        shaking();
        Due.end();
    }

    // ---- I: the RING ----

    private static void rings() {
        Due.says("A RING of W by H (3 .. 6 each)");
        for (int w = 2; w <= 7; w++) {
            for (int h = 2; h <= 7; h++) {
                boolean good = w > 2 && w < 7 && h > 2 && h < 7;
                FoamCells f = new FoamCells();
                Due.due("ring(" + w + ", " + h + ")", f.ring(w, h), good ? w * h : -1);
                Due.due("cells", f.count(0), good ? w * h : 16);
                Due.due("walls", f.count(1), good ? 3 * w * h : 48);
                Due.due("W", f.count(7), good ? w : 4);
                Due.due("H", f.count(8), good ? h : 4);
            }
        }
        for (int w = 3; w <= 6; w++) {
            for (int h = 3; h <= 6; h++) {
                for (int c = 0; c < w * h; c++) {
                    onTheRing(w, h, c);
                }
            }
        }
    }

    private static void onTheRing(int w, int h, int c) {
        FoamCells f = Due.ring(w, h);
        int[] walls = new int[6];
        int[] others = new int[6];
        int least = 0;
        for (int i = 0; i < 6; i++) {
            int x = c % w + TO[i][0];
            int y = c / w + TO[i][1];
            others[i] = (x + w) % w + w * ((y + h) % h);
            walls[i] = i < 3 ? 3 * c + i : 3 * others[i] + i - 3;
            least = walls[i] < walls[least] ? i : least;
            Due.says("counts 1 ROUND in x, if x goes from W less 1 to 0 by it, less 1 the other way; likewise in y");
            int sign = c < others[i] ? 1 : -1;
            Due.due(w + " by " + h + ", from " + c + " to " + others[i] + " in x", sign * f.rounds(walls[i], 0),
                x == w ? 1 : x < 0 ? -1 : 0);
            Due.due(w + " by " + h + ", from " + c + " to " + others[i] + " in y", sign * f.rounds(walls[i], 1),
                y == h ? 1 : y < 0 ? -1 : 0);
        }
        Due.says("its neighbours, one behind the other the way round .. all on the ring; WALL 3 c and i");
        for (int i = 0; i < 6; i++) {
            int k = (least + i) % 6;
            String at = w + " by " + h + ", side " + i + " of " + c;
            Due.due(at, f.side(c, i, 0), walls[k]);
            Due.due(at + ", the neighbour", f.side(c, i, 1), others[k]);
            Due.due(at + ", what it ends at", f.side(c, i, 2), others[(k + 1) % 6]);
        }
        Due.says("AREA of a CELL: 100 at first; LENGTH of a WALL: 10 at first");
        Due.due("area of " + c, f.cell(c, 1), 100);
        Due.due("lengths about " + c, f.cell(c, 3), 60);
    }

    private static void numbers() {
        Due.says("48 CELLS at most, 144 WALLS");
        FoamCells f = Due.ring(6, 6);
        for (int k = 36; k < 48; k++) {
            Due.due("cut(" + (k - 36) + ", 0, 1)", f.cut(k - 36, 0, 1), k);
        }
        Due.row("how many", Due.each(0, 2, f::count), 48, 144, 96);
        Due.due("sides of 47", f.cell(47, 0), 3);
        Due.due("cell 48", Due.cell(f, 48, 0), Due.THROWS);
        Due.due("length of 143", f.wall(143, 4), 10);
        Due.due("wall 144", f.wall(144, 4), -1);
        Due.due("cut(0, 0, 1)", f.cut(0, 0, 1), -4);
        Due.says("what is gone leaves its number; a new one has the least that is free");
        Due.due("47's neighbours are old ones", f.vanish(47) < 36, true);
        f.vanish(40);
        f.vanish(38);
        int[] free = {42, 43, 44, 48, 49, 50};
        Due.due("cells", f.count(0), 45);
        for (int w : free) {
            Due.due("wall " + (w + 72) + " is gone", f.wall(w + 72, 0), -1);
        }
        Due.due("cut(20, 0, 3)", f.cut(20, 0, 3), 38);
        Due.due("part of the first", f.wall(114, 1), 38);
        Due.due("part of the second", f.wall(115, 1), 38);
        Due.row("the one between", new int[] {f.wall(116, 0), f.wall(116, 1)}, 20, 38);
        Due.due("cut(22, 0, 3)", f.cut(22, 0, 3), 40);
        Due.row("the one between", new int[] {f.wall(122, 0), f.wall(122, 1)}, 22, 40);
        Due.due("cut(24, 0, 3)", f.cut(24, 0, 3), 47);
        Due.row("the one between", new int[] {f.wall(143, 0), f.wall(143, 1)}, 24, 47);
        Due.due("cut(26, 0, 3)", f.cut(26, 0, 3), -4);
        // burst(9) of a new one takes CELL 3 and WALLS 9, 10, 38
        f = new FoamCells();
        f.burst(9);
        Due.due("cut(10, 0, 3)", f.cut(10, 0, 3), 3);
        Due.row("new walls in their order: 9 part of the first", new int[] {f.wall(9, 0), f.wall(9, 1)}, 3, 6);
        Due.row("10 part of the second", new int[] {f.wall(10, 0), f.wall(10, 1)}, 3, 14);
        Due.row("38 the one between", new int[] {f.wall(38, 0), f.wall(38, 1)}, 3, 10);
        // burst(0) takes CELL 1 and WALLS 0, 5, 41
        f = new FoamCells();
        f.burst(0);
        Due.row("walls 0, 5, 41 are gone", new int[] {f.wall(0, 0), f.wall(5, 0), f.wall(41, 0)}, -1, -1, -1);
        Due.due("cut(10, 0, 3)", f.cut(10, 0, 3), 1);
        Due.row("0 part of the first", new int[] {f.wall(0, 0), f.wall(0, 1)}, 1, 6);
        Due.row("5 part of the second", new int[] {f.wall(5, 0), f.wall(5, 1)}, 1, 14);
        Due.row("41 the one between", new int[] {f.wall(41, 0), f.wall(41, 1)}, 1, 10);
        f = noughtOfThree();
        f.vanish(0);
        Due.due("cut(10, 0, 3): CELL 0 is free", f.cut(10, 0, 3), 0);
    }

    private static void rows() {
        Due.says("The SIDES of a CELL are WALLS, in a row the way round, from that of the least number on");
        FoamCells f = new FoamCells();
        Due.row("walls of 0", Due.walls(f, 0), 0, 1, 2, 9, 37, 41);
        f.swap(0);
        Due.row("walls of 0, without its first", Due.walls(f, 0), 1, 2, 9, 37, 41);
        Due.row("walls of 13, with another first", Due.walls(f, 13), 0, 41, 36, 28, 32, 39, 40);
        f.swap(0);
        Due.row("walls of 0, with it again", Due.walls(f, 0), 0, 1, 2, 9, 37, 41);
        Due.says("At each MEETING three WALLS come together; ENDS: the neighbours across the SIDES next to it");
        for (int seed = 0; seed < 20; seed++) {
            for (int c = 0; c < shaken(seed).count(0); c++) {
                meetings(shaken(seed), c);
            }
        }
        Due.says("TURN of a CELL: 6 less how many SIDES");
        f = noughtOfThree();
        f.swap(25);
        Due.row("of 3, 5, 6, 7, 8 sides", new int[] {f.cell(0, 2), f.cell(12, 2), f.cell(5, 2), f.cell(3, 2),
            Due.swapped(new FoamCells(), 0, 1).cell(13, 2)}, 3, 1, 0, -1, -2);
        Due.due("of 4 sides", Due.swapped(new FoamCells(), 0, 1).cell(0, 2), 2);
    }

    private static FoamCells shaken(int seed) {
        FoamCells f = Due.ring(3 + seed % 2, 3 + seed / 2 % 2);
        f.cut(seed % 9, seed % 3, 3 + seed % 2);
        f.shake(seed, 40, 99);
        return f;
    }

    /** From each MEETING of a CELL the same three CELLS are seen, and the ROUNDS about it come to none. */
    private static void meetings(FoamCells f, int c) {
        int[] walls = Due.walls(f, c);
        int[] others = Due.neighbours(f, c);
        for (int i = 0; i < walls.length; i++) {
            int behind = (i + 1) % walls.length;
            Due.due("side(" + c + ", " + i + ", 2)", f.side(c, i, 2), others[behind]);
            int[] there = from(Due.walls(f, others[i]), walls[i]);
            int third = there[there.length - 1];
            Due.row("the third wall at it", new int[] {f.wall(third, 0), f.wall(third, 1)},
                Math.min(others[i], others[behind]), Math.max(others[i], others[behind]));
            for (int what = 0; what < 2; what++) {
                Due.due("rounds about it", counted(f, walls[i], c, what) + counted(f, third, others[i], what)
                    - counted(f, walls[behind], c, what), 0);
            }
        }
    }

    /** What a WALL counts, crossed out of a CELL. */
    private static int counted(FoamCells f, int wall, int from, int what) {
        return f.wall(wall, 0) == from ? f.rounds(wall, what) : -f.rounds(wall, what);
    }

    // ---- SWAP ----

    private static void swaps() {
        Due.says("SWAP .. in C between the WALL of C and A and that of C and B that met there, in D likewise");
        for (int w = 0; w < 48; w++) {
            swapsRight(new FoamCells(), w);
        }
        // 4 and 8 leave two WALLS between one and the same CELLS about what is SWAPPED next
        for (int w = 0; w < 27; w++) {
            FoamCells f = Due.swapped(Due.ring(3, 3), 4, 8);
            if (f.wall(w, 5) == 1) {
                swapsRight(f, w);
            }
            f = Due.swapped(Due.ring(3, 3), 25, 9, 5);
            if (f.wall(w, 5) == 1) {
                swapsRight(f, w);
            }
        }
        Due.says("It can't, if these are not four CELLS");
        FoamCells f = Due.swapped(Due.ring(3, 3), 4, 2, 5);
        Due.due("both ends of 1 are one", f.wall(1, 2), f.wall(1, 3));
        Due.due("more than 3 sides", f.cell(f.wall(1, 0), 0) > 3 && f.cell(f.wall(1, 1), 0) > 3, true);
        Due.due("wall(1, 5)", f.wall(1, 5), 0);
        Due.due("wall(1, 6)", f.wall(1, 6), -1);
        Due.due("swap(1)", f.swap(1), -3);
        Due.says("or A or B has 3 SIDES");
        f = Due.swapped(new FoamCells(), 0, 1);
        Due.due("sides of 0", f.cell(0, 0), 4);
        Due.row("with 4 it can, by all four", new int[] {f.wall(2, 5), f.wall(9, 5), f.wall(37, 5), f.wall(41, 5)},
            1, 1, 1, 1);
        Due.swapped(f, 2);
        Due.due("sides of 0", f.cell(0, 0), 3);
        Due.row("with 3 it can't", new int[] {f.wall(9, 5), f.wall(37, 5), f.wall(41, 5)}, 0, 0, 0);
        Due.row("with 3 it can't", new int[] {f.swap(9), f.swap(37), f.swap(41)}, -3, -3, -3);
        f = new FoamCells();
        f.cut(5, 0, 1);
        Due.row("nor by a new one", new int[] {f.swap(48), f.swap(49), f.swap(50)}, -3, -3, -3);
        Due.due("an end of 3 sides is no matter", f.swap(4), 1000 + 2 * (7 + 7 - 3 - 6) - 4);
        Due.due("it has 4 then", f.cell(16, 0), 4);
        Due.says("Its LENGTH is 10 then");
        f = new FoamCells();
        f.length(0, 0);
        f.length(30, 99);
        Due.swapped(f, 0, 30);
        Due.row("lengths", new int[] {f.wall(0, 4), f.wall(30, 4)}, 10, 10);
    }

    /** Between A and B it was, between C and D it is, at the right MEETINGS. */
    private static void swapsRight(FoamCells f, int w) {
        int a = f.wall(w, 0);
        int b = f.wall(w, 1);
        int[] ofA = from(Due.walls(f, a), w);
        int[] ofB = from(Due.walls(f, b), w);
        int[] aOthers = fromOf(f, a, w);
        int c = aOthers[1];
        int d = aOthers[aOthers.length - 1];
        int[] ofC = Due.walls(f, c);
        int[] ofD = Due.walls(f, d);
        String at = "swap(" + w + ")";
        Due.due(at + " is done", f.swap(w) >= 0, true);
        Due.row(at + ", walls of A", from(Due.walls(f, a), ofA[1]), java.util.Arrays.copyOfRange(ofA, 1, ofA.length));
        Due.row(at + ", walls of B", from(Due.walls(f, b), ofB[1]), java.util.Arrays.copyOfRange(ofB, 1, ofB.length));
        Due.row(at + ", between", new int[] {f.wall(w, 0), f.wall(w, 1)}, Math.min(c, d), Math.max(c, d));
        Due.row(at + ", ends", new int[] {f.wall(w, 2), f.wall(w, 3)}, a, b);
        Due.row(at + ", walls of C", from(Due.walls(f, c), w), with(w, from(ofC, ofB[ofB.length - 1])));
        Due.row(at + ", walls of D", from(Due.walls(f, d), w), with(w, from(ofD, ofA[ofA.length - 1])));
    }

    private static int[] from(int[] row, int first) {
        int at = 0;
        while (row[at] != first) {
            at++;
        }
        int[] turned = new int[row.length];
        for (int k = 0; k < row.length; k++) {
            turned[k] = row[(at + k) % row.length];
        }
        return turned;
    }

    /** The neighbours of a CELL, from that across a WALL on. */
    private static int[] fromOf(FoamCells f, int cell, int wall) {
        int[] row = from(Due.walls(f, cell), wall);
        for (int k = 0; k < row.length; k++) {
            row[k] = f.wall(row[k], 0) == cell ? f.wall(row[k], 1) : f.wall(row[k], 0);
        }
        return row;
    }

    private static int[] with(int first, int[] row) {
        int[] longer = new int[row.length + 1];
        longer[0] = first;
        System.arraycopy(row, 0, longer, 1, row.length);
        return longer;
    }

    // ---- VANISH ----

    /** 0 has 3 SIDES: 9 to 3, 37 to 12, 41 to 13. */
    private static FoamCells noughtOfThree() {
        return Due.swapped(new FoamCells(), 0, 1, 2);
    }

    private static void vanishing() {
        Due.says("VANISH .. It can't, if its neighbours are not three CELLS, each with 4 SIDES or more");
        FoamCells f = Due.swapped(noughtOfThree(), 25, 29);
        Due.row("neighbours of 0", Due.neighbours(f, 0), 3, 12, 13);
        Due.due("sides of 12", f.cell(12, 0), 4);
        f.keep(0);
        Due.due("vanish(0): one has 4", f.vanish(0), 3);
        Due.due("sides of 12 then", f.cell(12, 0), 3);
        f.again(0);
        Due.swapped(f, 45);
        Due.due("sides of 12", f.cell(12, 0), 3);
        Due.due("vanish(0): one has 3", f.vanish(0), -3);
        Due.due("vanish(12): one has 3", f.vanish(12), -3);
        Due.says("each with 4 SIDES or more: the first, the second, the third one");
        besides(3, 10, 11, 6, 46);
        besides(12, 25, 29, 45);
        besides(13, 0, 1, 28, 32, 39, 40);
        Due.says("VANISH of a CELL with 3 SIDES");
        f = Due.swapped(new FoamCells(), 0, 1);
        Due.due("vanish(0): it has 4", f.vanish(0), -3);
        f = noughtOfThree();
        Due.due("vanish(0): it has 3", f.vanish(0), 3);
        Due.says("it and its WALLS are gone, each neighbour has that SIDE no more");
        Due.due("cell 0", Due.cell(f, 0, 0), Due.THROWS);
        Due.row("walls 9, 37, 41", new int[] {f.wall(9, 0), f.wall(37, 0), f.wall(41, 0)}, -1, -1, -1);
        Due.row("sides of 3, 12, 13", new int[] {f.cell(3, 0), f.cell(12, 0), f.cell(13, 0)}, 6, 5, 8);
        Due.says("its AREA comes to that of the neighbour of greatest AREA, of like ones to the least number");
        heir("all alike", 100, 100, 100, 100, 3);
        heir("the last", 100, 100, 100, 101, 13);
        heir("the two behind", 100, 99, 100, 100, 12);
        heir("the first and the last", 100, 100, 99, 100, 3);
        heir("below 0", -999, -5, -4, -4, 12);
        heir("one is 0", -999, -5, 0, -4, 12);
        heir("beyond what area() takes", 9999, 9999, 9999, 9999, 3);
        heir("nothing to bring", 0, 1, 2, 3, 13);
        Due.says("of like ones to the least number, 0");
        heirOfOne("all alike", 100, 100, 0);
        heirOfOne("greater than both", 99, -1, 0);
        heirOfOne("less than the second", 101, 100, 13);
        heirOfOne("less than the third", 100, 101, 14);
    }

    /** 0's neighbour comes to 4 SIDES by all SWAPS but the last one, then to 3. */
    private static void besides(int neighbour, int... walls) {
        FoamCells f = Due.swapped(noughtOfThree(), java.util.Arrays.copyOf(walls, walls.length - 1));
        Due.row("neighbours of 0", Due.neighbours(f, 0), 3, 12, 13);
        Due.due("sides of " + neighbour, f.cell(neighbour, 0), 4);
        f.keep(0);
        Due.due("vanish(0): " + neighbour + " has 4", f.vanish(0), 3);
        Due.due("sides of " + neighbour + " then", f.cell(neighbour, 0), 3);
        f.again(0);
        Due.swapped(f, walls[walls.length - 1]);
        Due.row("neighbours of 0", Due.neighbours(f, 0), 3, 12, 13);
        Due.due("sides of " + neighbour, f.cell(neighbour, 0), 3);
        Due.due("vanish(0): " + neighbour + " has 3", f.vanish(0), -3);
    }

    /** 1 has 3 SIDES: 0 to 0, 40 to 13, 44 to 14; 0 has AREA 100. */
    private static void heirOfOne(String name, int second, int third, int due) {
        FoamCells f = Due.swapped(new FoamCells(), 3, 4, 5);
        Due.row("neighbours of 1", Due.neighbours(f, 1), 0, 13, 14);
        f.area(13, second);
        f.area(14, third);
        Due.due(name + ": vanish(1)", f.vanish(1), due);
    }

    private static void heir(String name, int mine, int a, int b, int c, int due) {
        FoamCells f = noughtOfThree();
        f.area(0, mine);
        f.area(3, a);
        f.area(12, b);
        f.area(13, c);
        Due.due(name + ": vanish(0)", f.vanish(0), due);
        Due.due(name + ": area of 3", f.cell(3, 1), a + (due == 3 ? mine : 0));
        Due.due(name + ": area of 12", f.cell(12, 1), b + (due == 12 ? mine : 0));
        Due.due(name + ": area of 13", f.cell(13, 1), c + (due == 13 ? mine : 0));
    }

    // ---- CUT ----

    private static void cutting() {
        Due.says("behind the i-th SIDE's MEETING up to the j-th one's, the way round, is a new CELL");
        // WALLS of 5: 4 to 1, 8 to 2, 15 to 6, 16 to 9, 17 to 8, 12 to 4
        FoamCells f = new FoamCells();
        Due.due("cut(5, 4, 1), over the row's end", f.cut(5, 4, 1), 16);
        Due.row("walls of 16", Due.walls(f, 16), 4, 49, 50, 48, 12);
        Due.row("neighbours of 16", Due.neighbours(f, 16), 1, 2, 5, 8, 4);
        Due.row("walls of 5", Due.walls(f, 5), 8, 15, 16, 17, 50);
        f = new FoamCells();
        Due.due("cut(5, 5, 0), over the row's end", f.cut(5, 5, 0), 16);
        Due.row("walls of 16, none between", Due.walls(f, 16), 48, 49, 50);
        Due.row("neighbours of 16", Due.neighbours(f, 16), 4, 1, 5);
        Due.row("walls of 5", Due.walls(f, 5), 4, 8, 15, 16, 17, 12, 50);
        f = new FoamCells();
        Due.due("cut(5, 0, 5)", f.cut(5, 0, 5), 16);
        Due.row("walls of 16, all between", Due.walls(f, 16), 8, 15, 16, 17, 49, 50, 48);
        Due.row("walls of 5", Due.walls(f, 5), 4, 50, 12);
        for (int i = 0; i < 6; i++) {
            for (int j = 0; j < 6; j++) {
                cutAt(5, 6, i, j);
            }
        }
        Due.says("CUT of a CELL of 3 SIDES, the fewest");
        for (int i = 0; i < 3; i++) {
            for (int j = 0; j < 3; j++) {
                cutAt(16, 3, i, j);
            }
        }
        Due.says("half its LENGTH, upwards; the rest of its LENGTH; the one between, LENGTH 10");
        for (int length : new int[] {0, 1, 2, 9, 98, 99}) {
            f = new FoamCells();
            f.length(8, length);
            f.length(16, 99 - length);
            f.cut(5, 1, 3);
            Due.due("old part of " + length, f.wall(8, 4), (length + 1) / 2);
            Due.due("new part of " + length, f.wall(48, 4), length / 2);
            Due.due("old part of " + (99 - length), f.wall(16, 4), (100 - length) / 2);
            Due.due("new part of " + (99 - length), f.wall(49, 4), (99 - length) / 2);
            Due.due("between", f.wall(50, 4), 10);
        }
        Due.says("The new CELL has half the AREA, downwards (also below 0); the old one the rest");
        halves(0, 0, 0);
        halves(1, 0, 1);
        halves(-1, -1, 0);
        halves(-2, -1, -1);
        halves(-3, -2, -1);
        halves(-999, -500, -499);
        halves(9999, 4999, 5000);
    }

    private static void cutAt(int cell, int sides, int i, int j) {
        FoamCells f = new FoamCells();
        f.cut(5, 0, 1);
        if (cell == 5) {
            f.vanish(16);
        }
        int fresh = cell == 5 ? 16 : 17;
        int mine = f.side(cell, i, 1);
        int yours = f.side(cell, j, 1);
        int[] before = {f.cell(mine, 0), f.cell(yours, 0)};
        String call = "cut(" + cell + ", " + i + ", " + j + ")";
        Due.due(call, f.cut(cell, i, j), i == j ? -1 : fresh);
        if (i != j) {
            Due.due(call + ", sides of the new one", f.cell(fresh, 0), Math.floorMod(j - i, sides) + 2);
            Due.due(call + ", sides of the old one", f.cell(cell, 0), Math.floorMod(i - j, sides) + 2);
            Due.row(call + ", sides of those beyond", new int[] {f.cell(mine, 0), f.cell(yours, 0)},
                before[0] + 1, before[1] + 1);
        }
    }

    private static void halves(int area, int fresh, int old) {
        FoamCells f = new FoamCells();
        f.area(5, area);
        f.cut(5, 0, 3);
        Due.due("the new one's of " + area, f.cell(16, 1), fresh);
        Due.due("the old one's of " + area, f.cell(5, 1), old);
    }

    // ---- BURST ----

    private static void bursting() {
        Due.says("both LENGTHS (99 at most); the LENGTH of the WALL that goes is not added");
        // 9 lies between 0 and 3; 2 and 10 are one then, 37 and 38
        joined(0, 0, 0);
        joined(49, 49, 98);
        joined(49, 50, 99);
        joined(50, 50, 99);
        joined(99, 99, 99);
        joined(99, 0, 99);
        Due.says("(the lesser number is it, the other one is gone); it has the lesser number");
        FoamCells f = new FoamCells();
        f.area(0, -5);
        Due.due("burst(9)", f.burst(9), 0);
        Due.due("area of both", f.cell(0, 1), 95);
        Due.due("cell 3", Due.cell(f, 3, 0), Due.THROWS);
        Due.row("walls that stay", new int[] {f.wall(2, 0), f.wall(37, 0)}, 0, 0);
        Due.row("walls that go", new int[] {f.wall(9, 0), f.wall(10, 0), f.wall(38, 0)}, -1, -1, -1);
        Due.says("with all other SIDES of both, the way round");
        Due.row("walls of 0", Due.walls(f, 0), 0, 1, 2, 11, 6, 46, 37, 41);
        Due.row("neighbours of 0", Due.neighbours(f, 0), 1, 4, 7, 6, 2, 15, 12, 13);
        Due.says("It can't, if A, B, C, D are not four CELLS");
        f = Due.swapped(Due.ring(3, 3), 4, 2, 5);
        Due.due("both ends of 1 are one", f.wall(1, 2), f.wall(1, 3));
        Due.due("one wall between", f.between(f.wall(1, 0), f.wall(1, 1), 0), 1);
        Due.due("burst(1)", f.burst(1), -3);
        Due.says("another WALL lies between A and B");
        f = Due.swapped(Due.ring(3, 3), 0, 1);
        Due.row("wall 1", Due.each(0, 3, k -> twoBetween().wall(1, k)), 5, 7, 0, 3);
        Due.due("between(5, 7, 0)", f.between(5, 7, 0), 2);
        Due.due("burst(1)", f.burst(1), -3);
        Due.says("C or D has 3 SIDES");
        f = Due.swapped(new FoamCells(), 0, 1);
        Due.due("sides of 0", f.cell(0, 0), 4);
        Due.row("ends of 38", new int[] {f.wall(38, 2), f.wall(38, 3)}, 0, 15);
        Due.due("burst(38): an end has 4", f.burst(38), 3);
        Due.due("sides of 0 then", f.cell(0, 0), 3);
        f = noughtOfThree();
        Due.row("ends of 38", new int[] {f.wall(38, 2), f.wall(38, 3)}, 0, 15);
        Due.due("burst(38): an end has 3", f.burst(38), -3);
        for (int w : new int[] {1, 10, 36, 38}) {
            f = Due.swapped(new FoamCells(), 0, 1);
            Due.row("sides of 0, it is an end", new int[] {f.cell(0, 0), f.wall(w, 2)}, 4, 0);
            Due.due("burst(" + w + "): an end has 4", f.burst(w) >= 0, true);
        }
        for (int w : new int[] {2, 36, 38}) {
            f = noughtOfThree();
            Due.row("sides of 0, it is an end", new int[] {f.cell(0, 0), f.wall(w, 2)}, 3, 0);
            Due.due("burst(" + w + "): an end has 3", f.burst(w), -3);
        }
        f = new FoamCells();
        f.cut(5, 0, 1);
        Due.row("ends of 8, the other way", new int[] {f.wall(8, 2), f.wall(8, 3)}, 6, 16);
        Due.due("burst(8): an end has 3", f.burst(8), -3);
        Due.says("or A and B have 6 SIDES together");
        f = new FoamCells();
        f.cut(5, 0, 1);
        f.cut(16, 0, 1);
        Due.row("sides of 16, 17", new int[] {f.cell(16, 0), f.cell(17, 0)}, 4, 3);
        f.keep(0);
        Due.due("burst(53): they have 7", f.burst(53), 16);
        Due.due("sides of 16 then", f.cell(16, 0), 3);
        f.again(0);
        Due.swapped(f, 50);
        Due.row("sides of 16, 17", new int[] {f.cell(16, 0), f.cell(17, 0)}, 3, 3);
        Due.due("four cells", f.wall(53, 2) != f.wall(53, 3), true);
        Due.due("burst(53): they have 6", f.burst(53), -3);
    }

    private static FoamCells twoBetween() {
        return Due.swapped(Due.ring(3, 3), 0, 1);
    }

    private static void joined(int one, int other, int due) {
        FoamCells f = new FoamCells();
        f.length(9, 77);
        f.length(2, one);
        f.length(10, other);
        f.length(37, other);
        f.length(38, one);
        f.burst(9);
        Due.due(one + " and " + other, f.wall(2, 4), due);
        Due.due(other + " and " + one, f.wall(37, 4), due);
    }

    // ---- ROUNDS ----

    private static void rounds() {
        Due.says("a WALL that is SWAPPED counts from C to D as from C to A and from A to D did");
        FoamCells f = new FoamCells();
        // 47 lies between 15 (3, 3) and 2 (2, 0); its ENDS are 3 (3, 0) and 14 (2, 3)
        Due.row("wall 47", Due.each(0, 3, k -> new FoamCells().wall(47, k)), 2, 15, 3, 14);
        Due.row("47, from 2 to 15", new int[] {f.rounds(47, 0), f.rounds(47, 1)}, 0, -1);
        f.swap(47);
        Due.row("47, from 3 to 14", new int[] {f.rounds(47, 0), f.rounds(47, 1)}, 0, -1);
        // 9 lies between 3 (3, 0) and 0; its ENDS are 7 (3, 1) and 12 (0, 3)
        Due.swapped(f, 9);
        Due.row("9, from 7 to 12", new int[] {f.rounds(9, 0), f.rounds(9, 1)}, 1, -1);
        Due.swapped(f, 9);
        Due.row("9, from 0 to 3 again", new int[] {f.rounds(9, 0), f.rounds(9, 1)}, -1, 0);
        Due.says("a part of a WALL counts as it did, a new WALL of a CUT 0");
        f = new FoamCells();
        // WALLS of 15: 26 to 8, 45 to 12, 46 to 3, 47 to 2, 42 to 14, 34 to 11
        f.cut(15, 0, 2);
        Due.row("26, from 8 to 15, the old part", new int[] {f.rounds(26, 0), f.rounds(26, 1)}, -1, 0);
        Due.row("48, from 8 to 16, the new part", new int[] {f.rounds(48, 0), f.rounds(48, 1)}, -1, 0);
        Due.row("45, from 12 to 16, between", new int[] {f.rounds(45, 0), f.rounds(45, 1)}, -1, 0);
        Due.row("46, from 3 to 15, the old part", new int[] {f.rounds(46, 0), f.rounds(46, 1)}, 0, -1);
        Due.row("49, from 3 to 16, the new part", new int[] {f.rounds(49, 0), f.rounds(49, 1)}, 0, -1);
        Due.row("50, the new one", new int[] {f.rounds(50, 0), f.rounds(50, 1)}, 0, 0);
        Due.says("of a BURST WALL what it counted from A to B comes to all WALLS out of the greater of the two");
        f = new FoamCells();
        Due.due("burst(45)", f.burst(45), 12);
        // out of 15 they count as out of 12, where x is 0: less 1 in x
        Due.row("38, from 3 to 12, with what was 46", new int[] {f.rounds(38, 0), f.rounds(38, 1)}, 1, -1);
        Due.row("47, from 2 to 12", new int[] {f.rounds(47, 0), f.rounds(47, 1)}, 1, -1);
        Due.row("42, from 12 to 14", new int[] {f.rounds(42, 0), f.rounds(42, 1)}, -1, 0);
        Due.row("25, from 8 to 12, with what was 26", new int[] {f.rounds(25, 0), f.rounds(25, 1)}, 0, 0);
        Due.row("37, from 0 to 12, as it was", new int[] {f.rounds(37, 0), f.rounds(37, 1)}, 0, -1);
        // 37 lies between 12 (0, 3) and 0: less 1 in y from 0 to 12; out of 12 as out of 0
        f = new FoamCells();
        Due.due("burst(37)", f.burst(37), 0);
        Due.row("36, from 0 to 13, with what was 41", new int[] {f.rounds(36, 0), f.rounds(36, 1)}, 0, -1);
        Due.row("25, from 0 to 8", new int[] {f.rounds(25, 0), f.rounds(25, 1)}, 0, -1);
        Due.row("45, from 0 to 15", new int[] {f.rounds(45, 0), f.rounds(45, 1)}, -1, -1);
        Due.row("29, from 0 to 9", new int[] {f.rounds(29, 0), f.rounds(29, 1)}, 0, -1);
        Due.row("9, from 0 to 3, with what was 38", new int[] {f.rounds(9, 0), f.rounds(9, 1)}, -1, 0);
        Due.row("0, from 0 to 1, as it was", new int[] {f.rounds(0, 0), f.rounds(0, 1)}, 0, 0);
        Due.says("a WAY that goes about on one side of what was there counts as it did");
        Due.row("around 12", Due.each(-1, 1, x -> burst45().around(12, x, 0)), 3, 0, 3);
        Due.row("around 14", Due.each(-1, 1, x -> burst45().around(14, x, 0)), 3, 0, 3);
        Due.row("around 0", Due.each(-1, 1, y -> burst37().around(0, 0, y)), 3, 0, 3);
        Due.row("around 8", Due.each(-1, 1, y -> burst37().around(8, 0, y)), 3, 0, 3);
    }

    private static FoamCells burst45() {
        FoamCells f = new FoamCells();
        f.burst(45);
        return f;
    }

    private static FoamCells burst37() {
        FoamCells f = new FoamCells();
        f.burst(37);
        return f;
    }

    // ---- II: a STEP ----

    private static void growing() {
        Due.says("(1) AREA of each CELL is more by RATE (0 .. 9, 1 at first) times its SIDES less 6");
        for (int rate = -1; rate <= 10; rate++) {
            FoamCells f = new FoamCells();
            f.cut(5, 0, 1);
            Due.lengthen(f, 99);
            boolean good = rate >= 0 && rate <= 9;
            Due.due("rate(" + rate + ")", f.rate(rate), good ? 1 : -1);
            f.steps(1);
            int by = good ? rate : 1;
            Due.row("areas of 16, 5, 0", new int[] {f.cell(16, 1), f.cell(5, 1), f.cell(0, 1)},
                50 - 3 * by, 50 + by, 100);
        }
        Due.says("A STEP, all by the SIDES ahead of it");
        FoamCells f = new FoamCells();
        f.length(0, 0);
        Due.due("steps(1): 0 is swapped", f.steps(1), 1);
        Due.row("no area but by what was", Due.each(0, 5, c -> afterZero().cell(c, 1)), 100, 100, 100, 100, 100, 100);
        Due.due("no length but by what was", f.wall(1, 4), 10);
        f.steps(1);
        Due.row("areas behind the next one", new int[] {f.cell(0, 1), f.cell(4, 1)}, 99, 101);
    }

    private static FoamCells afterZero() {
        FoamCells f = new FoamCells();
        f.length(0, 0);
        f.steps(1);
        return f;
    }

    private static void stretching() {
        Due.says("(2) LENGTH .. more by the SIDES of both ENDS, together, less those of both CELLS; 0 .. 99, the nearest");
        // 0 loses 4 then, 2 gains 2
        for (int length = 0; length <= 99; length++) {
            FoamCells f = Due.swapped(new FoamCells(), 0);
            f.length(0, length);
            f.length(2, length);
            int swaps = f.steps(1);
            Due.due("swaps of " + length, swaps, length <= 4 ? 1 : 0);
            Due.due("0 of " + length, f.wall(0, 4), length <= 4 ? 10 : length - 4);
            Due.due("2 of " + length, f.wall(2, 4), Math.min(99, length + 2));
        }
        Due.says("0 .. 99, the nearest: one that can't is 0, not below");
        FoamCells f = Due.swapped(Due.ring(3, 3), 2);
        f.cut(0, 1, 0);
        Due.swapped(f, 6);
        Due.lengthen(f, 99);
        f.rate(0);
        f.length(1, 0);
        Due.due("growth of 1", Due.growth(f, 1), 0);
        Due.due("1 can't", f.wall(1, 5), 0);
        Due.due("steps(1)", f.steps(1), 0);
        Due.due("it stays", f.wall(1, 4), 0);
        f = Due.swapped(Due.ring(3, 4), 2, 1, 5);
        f.cut(2, 0, 5);
        Due.lengthen(f, 99);
        f.rate(0);
        f.length(4, 0);
        Due.due("growth of 4", Due.growth(f, 4), -1);
        Due.due("4 can't", f.wall(4, 5), 0);
        Due.due("steps(1)", f.steps(1), 0);
        Due.due("it is not below 0", f.wall(4, 4), 0);
    }

    private static void shortest() {
        Due.says("(3) Of WALLS of LENGTH 0, in the order of their numbers, each that can (by then) is SWAPPED");
        FoamCells f = new FoamCells();
        for (int w : new int[] {9, 2, 1, 0}) {
            f.length(w, 0);
        }
        Due.due("9 could, but not by then", f.wall(9, 5), 1);
        Due.due("steps(1)", f.steps(1), 3);
        Due.row("the first", Due.log(f, 2), 0, 1, 0);
        Due.row("the second", Due.log(f, 1), 0, 1, 1);
        Due.row("the third", Due.log(f, 0), 0, 1, 2);
        Due.says("one that can't then stays");
        Due.due("length of 9", f.wall(9, 4), 0);
        Due.due("9 can't", f.wall(9, 5), 0);
        Due.due("0 is still there", f.cell(0, 0), 3);
        Due.says("(by then): 5 could not, but can when 1 has been");
        f = Due.swapped(Due.ring(3, 4), 2, 6);
        f.cut(1, 0, 5);
        two(f, 1, 4, 5, 0);
        Due.due("5 can't", f.wall(5, 5), 0);
        Due.due("steps(1)", f.steps(1), 2);
        Due.row("the first", Due.log(f, 1), 0, 1, 1);
        Due.row("the second", Due.log(f, 0), 0, 1, 5);
        f = Due.swapped(Due.ring(3, 3), 2, 1);
        f.cut(2, 4, 0);
        Due.swapped(f, 5);
        two(f, 1, 2, 4, 1);
        Due.due("4 can't: its ends are one", f.wall(4, 2), f.wall(4, 3));
        Due.due("steps(1)", f.steps(1), 2);
        Due.row("the first", Due.log(f, 1), 0, 1, 1);
        Due.row("the second", Due.log(f, 0), 0, 1, 4);
        Due.says("(by then): 1 can't when it is its turn, though it can when 5 has been");
        f = Due.swapped(Due.ring(3, 3), 2);
        f.cut(0, 1, 0);
        Due.swapped(f, 6);
        two(f, 5, 7, 1, 0);
        Due.due("steps(1)", f.steps(1), 1);
        Due.row("5 alone", Due.log(f, 0), 0, 1, 5);
        Due.row("1 is 0 and can", new int[] {f.wall(1, 4), f.wall(1, 5)}, 0, 1);
    }

    /** All WALLS are long but two; no AREA changes. */
    private static void two(FoamCells f, int one, int length, int other, int another) {
        Due.lengthen(f, 99);
        f.length(one, length);
        f.length(other, another);
        f.rate(0);
    }

    private static void smallest() {
        Due.says("(4) Each CELL .. of AREA 0 or below");
        for (int area = -2; area <= 2; area++) {
            FoamCells f = new FoamCells();
            f.area(5, area);
            Due.due("steps(1), area " + area, f.steps(1), area <= 0 ? 1 : 0);
            Due.due("sides of 5", f.cell(5, 0), area <= 0 ? 5 : 6);
            f = Due.swapped(new FoamCells(), 0);
            Due.lengthen(f, 99);
            f.area(0, area);
            Due.due("steps(1) by 5 sides, area " + area, f.steps(1), area <= 1 ? 1 : 0);
        }
        Due.says("in the order of their numbers");
        FoamCells f = new FoamCells();
        f.area(15, 0);
        f.area(0, 0);
        f.area(10, 0);
        Due.due("steps(1)", f.steps(1), 3);
        Due.row("one behind the other", new int[] {f.log(2, 2), f.log(1, 2), f.log(0, 2)}, 0, 19, 26);
        threeSides();
        moreSides();
        broughtAreas();
    }

    private static void threeSides() {
        Due.says("if it has 3 SIDES, it VANISHES, if it can");
        FoamCells f = noughtOfThree();
        Due.lengthen(f, 99);
        f.area(0, 3);
        f.keep(0);
        Due.due("steps(1), by its 3 less to 0", f.steps(1), 1);
        Due.row("log", Due.log(f, 0), 1, 1, 0);
        f.again(0);
        f.area(0, 4);
        Due.due("steps(1), to 1", f.steps(1), 0);
        f = Due.swapped(noughtOfThree(), 25, 29, 45);
        Due.lengthen(f, 99);
        f.rate(0);
        f.area(0, -5);
        Due.due("steps(1): a neighbour has 3", f.steps(1), 0);
        Due.row("it stays as it was", new int[] {f.cell(0, 0), f.cell(0, 1)}, 3, -5);
    }

    private static void moreSides() {
        Due.says("if it has more, of its SIDES that can, the WALL of least LENGTH, of like ones of the least number");
        FoamCells f = new FoamCells();
        f.area(5, 0);
        Due.due("steps(1)", f.steps(1), 1);
        Due.row("all alike: the least number", Due.log(f, 0), 0, 1, 4);
        f = new FoamCells();
        f.area(5, 0);
        f.length(17, 9);
        Due.due("steps(1)", f.steps(1), 1);
        Due.row("the shortest", Due.log(f, 0), 0, 1, 17);
        f = new FoamCells();
        f.cut(5, 0, 1);
        Due.lengthen(f, 99);
        f.rate(0);
        f.length(50, 1);
        f.length(16, 40);
        f.area(5, 0);
        Due.due("50 can't: 16 has 3 sides", f.wall(50, 5), 0);
        Due.due("steps(1)", f.steps(1), 1);
        Due.row("the shortest that can", Due.log(f, 0), 0, 1, 16);
        Due.says("of its SIDES that can: none");
        f = Due.swapped(Due.ring(3, 3), 3, 10, 8, 21);
        f.cut(7, 3, 0);
        Due.swapped(f, 24, 25, 26, 11);
        Due.due("sides of 8", f.cell(8, 0), 4);
        for (int i = 0; i < 4; i++) {
            Due.due("side " + i + " can't", f.wall(f.side(8, i, 0), 5), 0);
        }
        Due.lengthen(f, 99);
        f.rate(0);
        f.area(8, -999);
        Due.due("steps(1)", f.steps(1), 0);
        Due.row("it stays as it was", new int[] {f.cell(8, 0), f.cell(8, 1)}, 4, -999);
    }

    private static void broughtAreas() {
        Due.says("in (4) by AREA and SIDES as they are then (with what VANISHED brought)");
        FoamCells f = noughtOfThree();
        Due.lengthen(f, 99);
        f.rate(0);
        f.area(0, -50);
        f.area(3, 50);
        f.area(12, 49);
        f.area(13, 49);
        Due.due("0 brings 3 to 0, and 3 comes behind 0", f.steps(1), 2);
        Due.row("first", Due.log(f, 1), 1, 1, 0);
        Due.due("then a side of 3", f.log(0, 0), 0);
        Due.due("area of 3", f.cell(3, 1), 0);
        Due.due("sides of 3: 7 less what went, less what was swapped", f.cell(3, 0), 5);
        f = noughtOfThree();
        Due.lengthen(f, 99);
        f.rate(0);
        f.area(0, -50);
        f.area(3, 51);
        f.area(12, 49);
        f.area(13, 49);
        Due.due("0 brings 3 to 1", f.steps(1), 1);
        f = new FoamCells();
        f.cut(5, 0, 1);
        Due.lengthen(f, 99);
        f.rate(0);
        f.area(16, -50);
        f.area(1, 40);
        f.area(2, 30);
        f.area(5, 30);
        Due.due("16 brings 1 to -10, whose turn has been", f.steps(1), 1);
        Due.row("log", Due.log(f, 0), 1, 1, 16);
        Due.due("it gives way in the next", f.steps(1), 1);
        Due.row("log", Due.log(f, 0), 0, 2, 3);
        Due.says("by SIDES as they are then: a CELL that comes to 3 by the SWAP of one ahead of it VANISHES");
        // 3 and 12 have the WALL 38 between them; 12 comes to 4 SIDES
        f = Due.swapped(new FoamCells(), 25, 29);
        Due.lengthen(f, 99);
        f.rate(0);
        Due.due("sides of 12", f.cell(12, 0), 4);
        f.area(3, 0);
        f.area(12, 0);
        f.length(38, 40);
        Due.due("steps(1)", f.steps(1), 2);
        Due.row("first", Due.log(f, 1), 0, 1, 38);
        Due.row("then", Due.log(f, 0), 1, 1, 12);
        Due.says("a CELL that comes to 3 SIDES by its own SWAP stays until the next STEP");
        f = Due.swapped(new FoamCells(), 25, 29);
        Due.lengthen(f, 99);
        f.rate(0);
        f.area(12, 0);
        Due.due("steps(1)", f.steps(1), 1);
        Due.due("sides of 12", f.cell(12, 0), 3);
        Due.due("steps(1)", f.steps(1), 1);
        Due.due("cell 12", Due.cell(f, 12, 0), Due.THROWS);
    }

    // ---- STRAIN, LOG, SHAKEN ----

    private static void easing() {
        Due.says("RELAXED: as long as there is one that can be SWAPPED whose EASING is above 0");
        FoamCells f = Due.ring(3, 3);
        f.cut(2, 3, 0);
        int noughts = 0;
        for (int w = 0; w < 30; w++) {
            noughts += f.wall(w, 6) == 1000 ? 1 : 0;
            Due.due("easing of " + w + " is not above 0", f.wall(w, 6) <= 1000, true);
        }
        Due.due("walls of easing 0", noughts, 5);
        Due.due("strain", f.all(0), 4);
        Due.row("at rest", new int[] {f.easiest(), f.all(6), f.resting(0), f.resting(1), f.relax()}, -1, 1, 0, 4, 0);
        Due.says("that of the greatest EASING, of like ones of the least number");
        f = Due.swapped(Due.ring(4, 3), 6, 5);
        Due.row("easing of 2, 5", new int[] {f.wall(2, 6), f.wall(5, 6)}, 1002, 1004);
        Due.due("easiest()", f.easiest(), 5);
        f.relax();
        Due.due("the first of the log", f.log(f.count(4) - 3, 2), 5);
        f = Due.swapped(new FoamCells(), 0, 30);
        Due.row("easing of 0, 30", new int[] {f.wall(0, 6), f.wall(30, 6)}, 1004, 1004);
        Due.due("easiest()", f.easiest(), 0);
        Due.says("EASING may be below 0");
        Due.due("wall(0, 6) on a ring", new FoamCells().wall(0, 6), 996);
        Due.due("swap(0) on a ring", new FoamCells().swap(0), 996);
        Due.says("EASING a WALL: by how much STRAIN would be less by its SWAP; it can't: none");
        f = new FoamCells();
        f.cut(5, 0, 1);
        Due.row("48, 49, 50", Due.each(48, 50, w -> threeAtFive().wall(w, 6)), -1, -1, -1);
        // 3, 4, 8 have two of 7 SIDES beside them, 16 and one of 6 at their ENDS: the greatest here
        Due.row("3, 4, 8", new int[] {f.wall(3, 6), f.wall(4, 6), f.wall(8, 6)}, 1006, 1006, 1006);
    }

    private static FoamCells threeAtFive() {
        FoamCells f = new FoamCells();
        f.cut(5, 0, 1);
        return f;
    }

    private static void logging() {
        Due.says("The LOG has what happened, the last 30");
        FoamCells f = new FoamCells();
        f.burst(9);
        for (int k = 1; k <= 31; k++) {
            Due.due("length", f.count(10), Math.min(30, k));
            Due.due("log(" + k + ", 0)", f.log(k, 0), -1);
            Due.due("the oldest", f.log(Math.min(29, k - 1), 0), k <= 30 ? 3 : 0);
            f.swap(30);
        }
        Due.due("swaps so far go on", f.count(4), 31);
        Due.says("STEPS so far (with the one that goes on)");
        f = Due.swapped(new FoamCells(), 0);
        Due.row("ahead of all steps", Due.log(f, 0), 0, 0, 0);
        Due.due("steps(3)", f.steps(3), 1);
        Due.row("by the third", Due.log(f, 0), 0, 3, 0);
        f.swap(30);
        Due.row("behind it", Due.log(f, 0), 0, 3, 30);
        Due.says("relax(), shake() LOG their SWAPS with STEPS so far");
        f.relax();
        Due.row("relax()", Due.log(f, 0), 0, 3, 30);
        f.shake(2, 1, 4);
        Due.row("shake()", Due.log(f, 0), 0, 3, 7);
        Due.says("the WALL (0, 3), the CELL (1), the old CELL (2)");
        f.cut(9, 0, 1);
        Due.row("cut", Due.log(f, 0), 2, 3, 9);
        f.vanish(16);
        Due.row("vanish", Due.log(f, 0), 1, 3, 16);
        f.burst(9);
        Due.row("burst", Due.log(f, 0), 3, 3, 9);
    }

    private static void shaking() {
        Due.says("SHAKEN by a SEED (0 .. 999,999), n times, h");
        // 0 draws 12,345: WALL 105; 999,999 draws 7,933: WALL 13
        FoamCells f = Due.ring(6, 6);
        Due.due("shake(0, 1, 4)", f.shake(0, 1, 4), 1);
        Due.row("log", Due.log(f, 0), 0, 0, 105);
        f.ring(6, 6);
        Due.due("shake(999999, 1, 4)", f.shake(999999, 1, 4), 1);
        Due.row("log", Due.log(f, 0), 0, 0, 13);
        Due.row("shake", new int[] {f.shake(-1, 1, 4), f.shake(1000000, 1, 4)}, -1, -1);
        Due.says("it is SWAPPED, if it is there");
        f = new FoamCells();
        Due.due("shake(0, 1, 99): no 105 here", f.shake(0, 1, 99), 0);
        Due.says("can be");
        f = Due.swapped(Due.ring(3, 3), 4, 2, 5);
        int seed = Due.seedOf(1);
        Due.due("1 is not four", f.shake(seed, 1, 99), 0);
        Due.says("and its EASING is not below -h");
        for (int h = 0; h <= 6; h++) {
            f = new FoamCells();
            Due.due("-4, h " + h, f.shake(2, 1, h), h >= 4 ? 1 : 0);
            // 0 lies between 0 and 1; 1 and 7 have EASING -6 next to it
            f = Due.swapped(new FoamCells(), 0);
            Due.due("easing of 9", f.wall(9, 6), 994);
            Due.due("-6, h " + h, f.shake(Due.seedOf(9), 1, h), h >= 6 ? 1 : 0);
        }
        f = Due.ring(3, 3);
        f.cut(2, 3, 0);
        int nought = 0;
        while (f.wall(nought, 6) != 1000) {
            nought++;
        }
        Due.due("0, h 0", f.shake(Due.seedOf(nought), 1, 0), 1);
        Due.says("A DRAW of m: s becomes (1,103 s and 12,345) modulo 1,000,003; it is s modulo m");
        draws();
    }

    private static void draws() {
        for (int seed : new int[] {0, 1, 906, 907, 123456, 999998, 999999}) {
            FoamCells f = Due.ring(6, 6);
            FoamCells twin = Due.ring(6, 6);
            long s = seed;
            int many = 0;
            for (int k = 0; k < 99; k++) {
                s = (1103 * s + 12345) % 1000003;
                many += twin.swap((int) (s % 144)) >= 0 ? 1 : 0;
            }
            Due.due("shake(" + seed + ", 99, 99)", f.shake(seed, 99, 99), many);
            for (int i = 0; i < 30; i++) {
                Due.due("log " + i, f.log(i, 2), twin.log(i, 2));
            }
        }
    }
}
