import java.util.NoSuchElementException;

/**
 * Each promise: ordinary answers, the document's edges, wrong numbers. Most are reckoned by hand; those of shaken and
 * restless foams, and alike() of 5, are what the class and Model both answered.
 */
public final class PromisesTest {
    private static final int NO = Integer.MIN_VALUE;
    private static int wrong = 0;
    private static int promise = 0;

    private static void due(String call, long got, long want) {
        if (got != want) {
            wrong++;
            System.out.println("promise " + promise + ": " + call + " answered " + got + ", due is " + want);
        }
    }

    private static void due(String call, boolean got, boolean want) {
        due(call, got ? 1 : 0, want ? 1 : 0);
    }

    /** A row of answers of the same call. */
    private static void rows(String call, int[] got, int... want) {
        due(call + ": how many", got.length, want.length);
        for (int k = 0; k < Math.min(got.length, want.length); k++) {
            due(call + ", no. " + k, got[k], want[k]);
        }
    }

    private static int[] sides(FoamCells f, int cell, int what) {
        int[] row = new int[f.cell(cell, 0)];
        for (int i = 0; i < row.length; i++) {
            row[i] = f.side(cell, i, what);
        }
        return row;
    }

    private static int[] wall(FoamCells f, int w) {
        int[] row = new int[7];
        for (int i = 0; i < 7; i++) {
            row[i] = f.wall(w, i);
        }
        return row;
    }

    private static int[] counts(FoamCells f) {
        int[] row = new int[16];
        for (int i = 0; i < 16; i++) {
            row[i] = f.count(i);
        }
        return row;
    }

    private static int[] log(FoamCells f, int i) {
        return new int[] {f.log(i, 0), f.log(i, 1), f.log(i, 2)};
    }

    private static boolean cellThrows(FoamCells f, int cell, int what) {
        try {
            f.cell(cell, what);
            return false;
        } catch (NoSuchElementException e) {
            return true;
        }
    }

    private static boolean sideThrows(FoamCells f, int cell, int i, int what) {
        try {
            f.side(cell, i, what);
            return false;
        } catch (NoSuchElementException e) {
            return true;
        }
    }

    /** 16 is a CELL of 3 SIDES (48 to 1, 49 to 2, 50 to 5), with long WALLS behind its corners. */
    private static FoamCells withThree() {
        FoamCells f = new FoamCells();
        f.cut(5, 0, 1);
        f.length(3, 50);
        f.length(4, 50);
        f.length(8, 50);
        return f;
    }

    /** 5 and 7 have two WALLS between them, 1 and another one. */
    private static FoamCells withTwoWalls() {
        FoamCells f = new FoamCells();
        f.ring(3, 3);
        f.swap(0);
        f.swap(1);
        return f;
    }

    public static void main(String[] args) {
        changing();
        stepping();
        asking();
        kinds();
        onPaper();
        been();
        System.out.println(wrong == 0 ? "all answers are as due" : wrong + " answers are not as due");
        if (wrong != 0) {
            System.exit(1);
        }
    }

    private static void changing() {
        aNewObject();
        ring();
        rate();
        area();
        length();
        swap();
        vanish();
        cut();
        burst();
    }

    private static void aNewObject() {
        promise = 1;
        FoamCells f = new FoamCells();
        rows("counts", counts(f), 16, 48, 32, 0, 0, 0, 0, 4, 4, 1, 0, 0, 0, 0, 0, 0);
        due("again(0)", f.again(0), false);
        for (int c = 0; c < 16; c++) {
            due("sides of " + c, f.cell(c, 0), 6);
            due("area of " + c, f.cell(c, 1), 100);
        }
        rows("walls of 5", sides(f, 5, 0), 4, 8, 15, 16, 17, 12);
        rows("neighbours of 5", sides(f, 5, 1), 1, 2, 6, 9, 8, 4);
        due("NONE", FoamCells.NONE, -1);
    }

    private static void ring() {
        promise = 2;
        FoamCells f = new FoamCells();
        f.rate(4);
        f.area(0, -5);
        f.swap(0);
        f.steps(2);
        f.cut(5, 0, 1);
        f.vanish(16);
        due("vanished", f.count(5), 1);
        f.burst(30);
        f.swap(999);
        f.keep(1);
        due("ring(6, 6)", f.ring(6, 6), 36);
        rows("counts", counts(f), 36, 108, 72, 0, 0, 0, 0, 6, 6, 4, 0, 0, 1, 0, 0, 0);
        due("area", f.cell(0, 1), 100);
        due("length", f.all(5), 1080);
        due("log", f.log(0, 0), -1);
        due("ring(3, 3)", f.ring(3, 3), 9);
        due("cell 9 is gone", cellThrows(f, 9, 0), true);
        rows("neighbours of 0", sides(f, 0, 1), 1, 3, 5, 2, 6, 7);
        due("ring(3, 6)", f.ring(3, 6), 18);
        due("ring(2, 4)", f.ring(2, 4), -1);
        due("ring(4, 2)", f.ring(4, 2), -1);
        due("ring(7, 4)", f.ring(7, 4), -1);
        due("ring(4, 7)", f.ring(4, 7), -1);
        due("ring(MIN, MAX)", f.ring(NO, Integer.MAX_VALUE), -1);
        due("refused", f.count(11), 5);
        due("w", f.count(7), 3);
        due("h", f.count(8), 6);
        due("again(1)", f.again(1), true);
        due("w", f.count(7), 4);
        due("cuts", f.count(6), 1);
        due("refused is as it was", f.count(11), 0);
    }

    private static void rate() {
        promise = 3;
        FoamCells f = new FoamCells();
        due("rate(0)", f.rate(0), 1);
        due("rate(9)", f.rate(9), 0);
        due("rate(10)", f.rate(10), -1);
        due("rate(-1)", f.rate(-1), -1);
        due("rate(9)", f.rate(9), 9);
        due("refused", f.count(11), 2);
    }

    private static void area() {
        promise = 4;
        FoamCells f = new FoamCells();
        due("area(3, -999)", f.area(3, -999), 100);
        due("area(3, 9999)", f.area(3, 9999), -999);
        due("area(3, -1000)", f.area(3, -1000), -1);
        due("area(99, 10000)", f.area(99, 10000), -1);
        due("area(16, 0)", f.area(16, 0), -2);
        due("area(-1, 0)", f.area(-1, 0), -2);
        due("area(48, 0)", f.area(48, 0), -2);
        due("area", f.cell(3, 1), 9999);
        due("area(3, -1)", f.area(3, -1), 9999);
        due("area(3, 5)", f.area(3, 5), -1);
        due("refused by -1", f.count(11), 2);
        due("refused by -2", f.count(12), 3);
    }

    private static void length() {
        promise = 5;
        FoamCells f = new FoamCells();
        due("length(47, 0)", f.length(47, 0), 10);
        due("length(47, 99)", f.length(47, 99), 0);
        due("length(47, 100)", f.length(47, 100), -1);
        due("length(99, -1)", f.length(99, -1), -1);
        due("length(48, 0)", f.length(48, 0), -2);
        due("length(-1, 0)", f.length(-1, 0), -2);
        due("length(144, 0)", f.length(144, 0), -2);
        due("length", f.wall(47, 4), 99);
        due("refused by -1", f.count(11), 2);
        due("refused by -2", f.count(12), 3);
    }

    private static void swap() {
        promise = 6;
        FoamCells f = new FoamCells();
        f.length(0, 77);
        due("swap(0)", f.swap(0), 996);
        rows("walls of 0", sides(f, 0, 0), 1, 2, 9, 37, 41);
        rows("walls of 4", sides(f, 4, 0), 0, 5, 12, 13, 14, 21, 1);
        rows("neighbours of 4", sides(f, 4, 1), 13, 1, 5, 8, 11, 7, 0);
        rows("walls of 13", sides(f, 13, 0), 0, 41, 36, 28, 32, 39, 40);
        rows("wall 0", wall(f, 0), 4, 13, 0, 1, 10, 1, 1004);
        due("swap(0)", f.swap(0), 1004);
        rows("walls of 4", sides(f, 4, 0), 1, 5, 12, 13, 14, 21);
        due("swap(48)", f.swap(48), -2);
        due("swap(-1)", f.swap(-1), -2);
        due("swap(144)", f.swap(144), -2);
        due("swaps", f.count(4), 2);
        due("refused by -2", f.count(12), 3);
        f = withThree();
        due("swap(48): 3 sides", f.swap(48), -3);
        due("swap(50): 3 sides", f.swap(50), -3);
        due("swap(4): it ends at 3 sides", f.swap(4), 2 * (7 + 7 - 3 - 6) - 4 + 1000);
        f = withTwoWalls();
        f.swap(15);
        rows("wall 16", wall(f, 16), 5, 8, 7, 7, 10, 0, -1);
        due("swap(16): not four", f.swap(16), -3);
        due("refused by -3", f.count(13), 1);
        due("swaps", f.count(4), 3);
    }

    private static void vanish() {
        promise = 7;
        FoamCells f = withThree();
        due("vanish(5)", f.vanish(5), -3);
        due("vanish(17)", f.vanish(17), -2);
        due("vanish(-1)", f.vanish(-1), -2);
        due("vanish(48)", f.vanish(48), -2);
        f.keep(0);
        due("vanish(16): of like ones the least", f.vanish(16), 1);
        due("area of 1", f.cell(1, 1), 150);
        due("gone", cellThrows(f, 16, 0), true);
        rows("walls of 5", sides(f, 5, 0), 4, 8, 15, 16, 17, 12);
        due("wall 48", f.wall(48, 0), -1);
        rows("counts", counts(f), 16, 48, 32, 0, 0, 1, 1, 4, 4, 1, 2, 0, 3, 1, 0, 0);
        rows("log", log(f, 0), 1, 0, 16);
        f.again(0);
        f.area(16, -30);
        f.area(5, 101);
        due("vanish(16): to the greatest", f.vanish(16), 5);
        due("area of 5", f.cell(5, 1), 71);
        f.again(0);
        due("cut(16, 0, 1)", f.cut(16, 0, 1), 17);
        due("swap(50)", f.swap(50), 1000 + 2 * (4 + 7 - 8 - 8) - 4);
        due("sides of 16", f.cell(16, 0), 3);
        due("sides of 17", f.cell(17, 0), 3);
        due("vanish(17): a neighbour has 3", f.vanish(17), -3);
        due("vanish(16): a neighbour has 3", f.vanish(16), -3);
    }

    private static void cut() {
        promise = 8;
        FoamCells f = new FoamCells();
        f.length(15, 7);
        f.length(8, 0);
        f.area(5, -7);
        due("cut(5, 2, 1)", f.cut(5, 2, 1), 16);
        due("area of the new one", f.cell(16, 1), -4);
        due("area of the old one", f.cell(5, 1), -3);
        rows("walls of 16", sides(f, 16, 0), 4, 49, 50, 48, 16, 17, 12);
        rows("neighbours of 16", sides(f, 16, 1), 1, 2, 5, 6, 9, 8, 4);
        rows("walls of 5", sides(f, 5, 0), 8, 15, 50);
        rows("neighbours of 5", sides(f, 5, 1), 2, 6, 16);
        rows("walls of 6", sides(f, 6, 0), 7, 11, 18, 19, 20, 48, 15);
        rows("walls of 2", sides(f, 2, 0), 3, 43, 47, 6, 7, 8, 49);
        due("length of 15", f.wall(15, 4), 4);
        due("length of 48", f.wall(48, 4), 3);
        due("length of 8", f.wall(8, 4), 0);
        due("length of 49", f.wall(49, 4), 0);
        due("length of 50", f.wall(50, 4), 10);
        rows("log", log(f, 0), 2, 0, 5);
        due("cuts", f.count(6), 1);
        due("cut(5, 3, 0)", f.cut(5, 3, 0), -1);
        due("cut(5, 0, 3)", f.cut(5, 0, 3), -1);
        due("cut(5, -1, 0)", f.cut(5, -1, 0), -1);
        due("cut(5, 1, 1)", f.cut(5, 1, 1), -1);
        due("cut(17, 1, 1)", f.cut(17, 1, 1), -2);
        due("cut(-1, 0, 1)", f.cut(-1, 0, 1), -2);
        cutWhatIsFree();
        cutToNumberNought();
        cutUntilFull();
    }

    private static void cutWhatIsFree() {
        FoamCells f = new FoamCells();
        f.burst(9);
        due("cut(0, 0, 1)", f.cut(0, 0, 1), 3);
        rows("walls of 3", sides(f, 3, 0), 9, 10, 38);
        rows("walls of 0", sides(f, 0, 0), 0, 38, 1, 2, 11, 6, 46, 37, 41);
    }

    private static void cutToNumberNought() {
        FoamCells f = new FoamCells();
        f.swap(0);
        f.swap(1);
        f.swap(2);
        rows("walls of 0", sides(f, 0, 0), 9, 37, 41);
        f.area(0, 7);
        due("vanish(0)", f.vanish(0), 3);
        due("area of 3", f.cell(3, 1), 107);
        due("cut(5, 0, 3)", f.cut(5, 0, 3), 0);
        rows("log", log(f, 0), 2, 0, 5);
        due("cuts", f.count(6), 1);
        rows("walls of 0", sides(f, 0, 0), 8, 15, 37, 41, 9);
        f = new FoamCells();
        due("cut(0, 3, 0)", f.cut(0, 3, 0), 16);
        rows("walls of 0", sides(f, 0, 0), 0, 1, 2, 9, 50);
    }

    private static void cutUntilFull() {
        FoamCells f = new FoamCells();
        for (int k = 16; k < 48; k++) {
            due("cut(0, 0, 1)", f.cut(0, 0, 1), k);
        }
        due("cut(0, 0, 0)", f.cut(0, 0, 0), -1);
        due("cut(48, 0, 1)", f.cut(48, 0, 1), -2);
        due("cut(0, 0, 1)", f.cut(0, 0, 1), -4);
        due("refused by -4", f.count(14), 1);
        due("walls", f.count(1), 144);
        due("cells", f.count(0), 48);
        due("turns", f.all(1), 0);
        due("areas", f.all(2), 1600);
        due("swap(144)", f.swap(144), -2);
    }

    private static void burst() {
        promise = 9;
        FoamCells f = new FoamCells();
        f.length(2, 50);
        f.length(10, 50);
        f.area(3, 7);
        due("burst(9)", f.burst(9), 0);
        due("sides of 0", f.cell(0, 0), 8);
        due("area of 0", f.cell(0, 1), 107);
        due("sides of 7", f.cell(7, 0), 5);
        due("sides of 12", f.cell(12, 0), 5);
        rows("walls of 0", sides(f, 0, 0), 0, 1, 2, 11, 6, 46, 37, 41);
        due("length, 99 at most", f.wall(2, 4), 99);
        due("length of both", f.wall(37, 4), 20);
        due("wall 10", f.wall(10, 0), -1);
        due("wall 38", f.wall(38, 0), -1);
        due("cell 3", cellThrows(f, 3, 0), true);
        rows("log", log(f, 0), 3, 0, 9);
        rows("counts", counts(f), 15, 45, 30, 0, 0, 0, 0, 4, 4, 1, 1, 0, 0, 0, 0, 1);
        due("rounds(6, 0): from 0 to 2 now", f.rounds(6, 0), -1);
        due("around(0, 1, 0)", f.around(0, 1, 0), 3);
        due("burst(9)", f.burst(9), -2);
        due("burst(-1)", f.burst(-1), -2);
        due("burst(144)", f.burst(144), -2);
        f = withThree();
        due("burst(4): it ends at 3 sides", f.burst(4), -3);
        due("burst(48): of 3 sides", f.burst(48), 1);
        due("sides of 1", f.cell(1, 0), 6);
        f = withThree();
        f.cut(16, 0, 1);
        f.swap(50);
        due("burst: 6 sides together", f.burst(f.between(16, 17, 1)), -3);
        f = withTwoWalls();
        due("burst(1): another wall", f.burst(1), -3);
        f.swap(15);
        due("burst(16): not four", f.burst(16), -3);
        due("refused by -3", f.count(13), 2);
    }

    private static void stepping() {
        shake();
        steps();
        relax();
        keep();
        again();
    }

    private static void shake() {
        promise = 10;
        FoamCells f = new FoamCells();
        // SEED 2 draws 14551 (WALL 7), 62050 (130), 453291 (123)
        due("shake(2, 1, 3)", f.shake(2, 1, 3), 0);
        due("shake(2, 1, 4)", f.shake(2, 1, 4), 1);
        rows("log", log(f, 0), 0, 0, 7);
        due("shake(2, 3, 0): back", f.shake(2, 3, 0), 1);
        due("strain", f.all(0), 0);
        due("swaps", f.count(4), 2);
        due("shake(-1, 1, 0)", f.shake(-1, 1, 0), -1);
        due("shake(1000000, 1, 0)", f.shake(1000000, 1, 0), -1);
        due("shake(0, 0, 0)", f.shake(0, 0, 0), -1);
        due("shake(0, 100, 0)", f.shake(0, 100, 0), -1);
        due("shake(0, 1, -1)", f.shake(0, 1, -1), -1);
        due("shake(0, 1, 100)", f.shake(0, 1, 100), -1);
        due("refused", f.count(11), 6);
        due("shake(999999, 99, 99) is taken", f.shake(999999, 99, 99) >= 0, true);
    }

    private static void steps() {
        promise = 11;
        FoamCells f = new FoamCells();
        f.swap(0);
        due("steps(1)", f.steps(1), 0);
        rows("areas", new int[] {f.cell(0, 1), f.cell(1, 1), f.cell(4, 1), f.cell(13, 1), f.cell(9, 1)},
            99, 99, 101, 101, 100);
        due("length", f.wall(0, 4), 6);
        due("length of 2, ends 4 and 3", f.wall(2, 4), 10 + 7 + 6 - 5 - 6);
        f.rate(9);
        f.length(15, 99);
        due("steps(2)", f.steps(2), 1);
        due("area", f.cell(0, 1), 81);
        rows("log", log(f, 0), 0, 3, 0);
        due("steps", f.count(3), 3);
        due("length is 10 then", f.wall(0, 4), 10);
        due("length, 99 at most", f.wall(15, 4), 99);
        due("steps(0)", f.steps(0), -1);
        due("steps(51)", f.steps(51), -1);
        due("steps(50)", f.steps(50), 0);
        due("steps", f.count(3), 53);
        stepsVanish();
        stepsGiveWay();
    }

    private static void stepsVanish() {
        FoamCells f = withThree();
        f.area(16, 4);
        due("steps(1)", f.steps(1), 0);
        due("area of 16", f.cell(16, 1), 1);
        due("steps(1)", f.steps(1), 1);
        rows("log", log(f, 0), 1, 2, 16);
        due("area of 1 has -2 of it", f.cell(1, 1), 100);
        due("vanished", f.count(5), 1);
    }

    private static void stepsGiveWay() {
        FoamCells f = new FoamCells();
        f.area(5, -1);
        f.length(17, 3);
        f.length(15, 3);
        due("steps(1)", f.steps(1), 1);
        rows("log: the shortest, then the least", log(f, 0), 0, 1, 15);
        f = new FoamCells();
        f.length(0, 0);
        f.length(1, 0);
        f.area(0, 0);
        // 0 and 1 go by LENGTH, then of what 0 has left the least number
        due("steps(1)", f.steps(1), 3);
        rows("first", log(f, 2), 0, 1, 0);
        rows("second", log(f, 1), 0, 1, 1);
        rows("third", log(f, 0), 0, 1, 2);
        due("sides of 0", f.cell(0, 0), 3);
        // of 3 SIDES, but next to another one of 3
        f = withThree();
        f.cut(16, 0, 1);
        f.swap(50);
        f.area(16, -999);
        due("16 can't vanish, 17 is of 3 sides", f.vanish(16), -3);
        f.rate(0);
        f.steps(1);
        due("16 stays", cellThrows(f, 16, 0), false);
    }

    private static void relax() {
        promise = 12;
        FoamCells f = new FoamCells();
        due("relax()", f.relax(), 0);
        f.swap(0);
        f.swap(30);
        due("relax()", f.relax(), 2);
        rows("log: of like ones the least first", log(f, 1), 0, 0, 0);
        rows("log", log(f, 0), 0, 0, 30);
        due("at rest", f.all(6), 1);
        f.shake(1, 99, 99);
        due("relax()", f.relax(), 9);
        due("strain", f.all(0), 12);
        due("easiest()", f.easiest(), -1);
    }

    private static void keep() {
        promise = 13;
        FoamCells f = new FoamCells();
        due("keep(-1)", f.keep(-1), false);
        due("keep(2)", f.keep(2), false);
        due("again(0)", f.again(0), false);
        due("keep(0)", f.keep(0), true);
        f.swap(0);
        due("keep(1)", f.keep(1), true);
        f.swap(30);
        due("keep(0)", f.keep(0), true);
        f.ring(3, 3);
        f.again(1);
        due("strain under 1", f.all(0), 4);
        f.again(0);
        due("strain under 0", f.all(0), 8);
        due("not refused", f.count(11), 0);
    }

    private static void again() {
        promise = 14;
        FoamCells f = new FoamCells();
        f.rate(5);
        f.swap(0);
        f.rate(11);
        f.length(3, 33);
        f.area(3, 44);
        f.steps(1);
        f.burst(30);
        f.keep(1);
        int[] kept = counts(f);
        f.ring(5, 3);
        f.rate(2);
        f.rate(11);
        f.swap(200);
        f.swap(1);
        f.burst(20);
        f.steps(9);
        due("again(0)", f.again(0), false);
        due("again(-1)", f.again(-1), false);
        due("again(2)", f.again(2), false);
        due("w", f.count(7), 5);
        for (int k = 0; k < 2; k++) {
            due("again(1)", f.again(1), true);
            rows("counts", counts(f), kept);
            rows("log", log(f, 0), 3, 1, 30);
            rows("log", log(f, 1), 0, 0, 0);
            due("length", f.wall(3, 4), 33 + (6 + 6 - 5 - 6));
            due("area", f.cell(3, 1), 44);
            due("wall 0", f.wall(0, 0), 4);
            f.swap(0);
            f.length(3, 1);
            f.cut(3, 0, 1);
        }
    }

    private static void asking() {
        cell();
        side();
        wallAnswers();
        between();
        far();
        mutual();
        around();
    }

    private static void cell() {
        promise = 15;
        FoamCells f = new FoamCells();
        f.swap(0);
        f.length(5, 3);
        f.area(4, -9);
        int[] row = new int[8];
        for (int what = -1; what < 7; what++) {
            row[what + 1] = f.cell(4, what);
        }
        rows("cell(4, ..)", row, NO, 7, -9, -1, 63, 7 + 5 + 6 + 6 + 6 + 6 + 5, 7, NO);
        due("cell(16, 0)", cellThrows(f, 16, 0), true);
        due("cell(16, 99)", cellThrows(f, 16, 99), true);
        due("cell(-1, 0)", cellThrows(f, -1, 0), true);
        due("cell(48, 0)", cellThrows(f, 48, 0), true);
        due("cell(MAX, 0)", cellThrows(f, Integer.MAX_VALUE, 0), true);
        f = withTwoWalls();
        due("sides of 5", f.cell(5, 0), 7);
        due("unlike neighbours of 5", f.cell(5, 5), 6);
    }

    private static void side() {
        promise = 16;
        FoamCells f = new FoamCells();
        rows("walls of 15", sides(f, 15, 0), 26, 45, 46, 47, 42, 34);
        rows("neighbours of 15", sides(f, 15, 1), 8, 12, 3, 2, 14, 11);
        rows("ends of 15", sides(f, 15, 2), 12, 3, 2, 14, 11, 8);
        due("side(15, 6, 0)", f.side(15, 6, 0), -1);
        due("side(15, -1, 0)", f.side(15, -1, 0), -1);
        due("side(15, 0, 3)", f.side(15, 0, 3), -1);
        due("side(15, 0, -1)", f.side(15, 0, -1), -1);
        due("side(16, 0, 0)", sideThrows(f, 16, 0, 0), true);
        due("side(-1, 9, 9)", sideThrows(f, -1, 9, 9), true);
        due("side(48, 0, 0)", sideThrows(f, 48, 0, 0), true);
    }

    private static void wallAnswers() {
        promise = 17;
        FoamCells f = new FoamCells();
        f.length(9, 44);
        rows("wall 9", wall(f, 9), 0, 3, 7, 12, 44, 1, 996);
        due("wall(9, 7)", f.wall(9, 7), -1);
        due("wall(9, -1)", f.wall(9, -1), -1);
        due("wall(48, 0)", f.wall(48, 0), -1);
        due("wall(-1, 0)", f.wall(-1, 0), -1);
        due("wall(144, 0)", f.wall(144, 0), -1);
        f = withThree();
        rows("wall 50", wall(f, 50), 5, 16, 1, 2, 10, 0, -1);
    }

    private static void between() {
        promise = 18;
        FoamCells f = withTwoWalls();
        due("between(5, 7, 0)", f.between(5, 7, 0), 2);
        due("between(7, 5, 1)", f.between(7, 5, 1), 1);
        due("between(0, 1, 0)", f.between(0, 1, 0), 0);
        due("between(0, 1, 1)", f.between(0, 1, 1), -1);
        due("between(5, 5, 0)", f.between(5, 5, 0), -1);
        due("between(5, 9, 0)", f.between(5, 9, 0), -1);
        due("between(-1, 5, 0)", f.between(-1, 5, 0), -1);
        due("between(5, 7, 2)", f.between(5, 7, 2), -1);
        due("between(5, 7, -1)", f.between(5, 7, -1), -1);
    }

    private static void far() {
        FoamCells f = new FoamCells();
        f.ring(6, 6);
        promise = 19;
        due("far(0, 21)", f.far(0, 21), 3);
        due("far(0, 14)", f.far(0, 14), 4);
        due("far(0, 18)", f.far(0, 18), 3);
        due("far(0, 5)", f.far(0, 5), 1);
        due("far(0, 11)", f.far(0, 11), 1);
        due("far(7, 7)", f.far(7, 7), 0);
        due("far(0, 36)", f.far(0, 36), -1);
        due("far(-1, 0)", f.far(-1, 0), -1);
        due("far(48, 48)", f.far(48, 48), -1);
        promise = 20;
        rows("shells of 0", new int[] {f.shell(0, 0), f.shell(0, 1), f.shell(0, 2), f.shell(0, 7)}, 1, 6, 12, 0);
        due("shell(0, -1)", f.shell(0, -1), -1);
        due("shell(36, 0)", f.shell(36, 0), -1);
        due("shell(0, MAX)", f.shell(0, Integer.MAX_VALUE), 0);
        promise = 21;
        int[] row = new int[8];
        for (int i = -1; i < 7; i++) {
            row[i + 1] = f.shellOf(0, 1, i);
        }
        rows("shellOf(0, 1, ..)", row, -1, 1, 5, 6, 11, 30, 31, -1);
        due("shellOf(0, 0, 0)", f.shellOf(0, 0, 0), 0);
        due("shellOf(0, -1, 0)", f.shellOf(0, -1, 0), -1);
        due("shellOf(0, 99, 0)", f.shellOf(0, 99, 0), -1);
        due("shellOf(36, 0, 0)", f.shellOf(36, 0, 0), -1);
        way(f);
    }

    private static void way(FoamCells f) {
        promise = 22;
        // (0, 0) to (1, 1): by 1 or by 6
        rows("way(0, 7, ..)", new int[] {f.way(0, 7, -1), f.way(0, 7, 0), f.way(0, 7, 1), f.way(0, 7, 2),
            f.way(0, 7, 3)}, -1, 0, 1, 7, -1);
        // (0, 0) to (3, 0), the one way or the other; on straight lines alone
        rows("way(0, 3, ..)", new int[] {f.way(0, 3, 1), f.way(0, 3, 2), f.way(0, 3, 3), f.way(0, 3, 4)}, 1, 2, 3, -1);
        rows("way(9, 9, ..)", new int[] {f.way(9, 9, 0), f.way(9, 9, 1)}, 9, -1);
        due("way(0, 36, 0)", f.way(0, 36, 0), -1);
        due("way(-1, 0, 0)", f.way(-1, 0, 0), -1);
        due("way(0, 3, MAX)", f.way(0, 3, Integer.MAX_VALUE), -1);
    }

    private static void mutual() {
        promise = 23;
        FoamCells f = new FoamCells();
        f.ring(6, 6);
        due("mutual(0, 1)", f.mutual(0, 1), 2);
        due("mutual(0, 7)", f.mutual(0, 7), 2);
        due("mutual(0, 2)", f.mutual(0, 2), 1);
        due("mutual(0, 21)", f.mutual(0, 21), 0);
        due("mutual(5, 5)", f.mutual(5, 5), -1);
        due("mutual(5, 36)", f.mutual(5, 36), -1);
        due("mutual(-1, 5)", f.mutual(-1, 5), -1);
    }

    private static void around() {
        promise = 28;
        FoamCells f = new FoamCells();
        f.ring(3, 6);
        due("around(0, 1, 0)", f.around(0, 1, 0), 3);
        due("around(0, -1, 0)", f.around(0, -1, 0), 3);
        due("around(0, 0, 1)", f.around(0, 0, 1), 6);
        due("around(0, 1, 1)", f.around(0, 1, 1), 9);
        due("around(0, 1, -1)", f.around(0, 1, -1), 6);
        due("around(4, 0, 0)", f.around(4, 0, 0), 0);
        due("around(0, 2, 0)", f.around(0, 2, 0), -1);
        due("around(0, 0, -2)", f.around(0, 0, -2), -1);
        due("around(18, 0, 0)", f.around(18, 0, 0), -1);
        promise = 29;
        f = new FoamCells();
        due("rounds(9, 0)", f.rounds(9, 0), -1);
        due("rounds(37, 1): from 0 to 12", f.rounds(37, 1), -1);
        due("rounds(38, 1): from 3 to 12", f.rounds(38, 1), -1);
        due("rounds(38, 0): from 3 to 12", f.rounds(38, 0), 1);
        due("rounds(2, 0): from 0 to 7", f.rounds(2, 0), -1);
        due("rounds(2, 1)", f.rounds(2, 1), 0);
        due("rounds(2, 2)", f.rounds(2, 2), NO);
        due("rounds(2, -1)", f.rounds(2, -1), NO);
        due("rounds(48, 0)", f.rounds(48, 0), NO);
        due("rounds(-1, 0)", f.rounds(-1, 0), NO);
        due("rounds(144, 0)", f.rounds(144, 0), NO);
        f.cut(0, 1, 4);
        due("rounds(37, 1): from 0 to 12", f.rounds(37, 1), -1);
        due("rounds(49, 1): from 12 to 16", f.rounds(49, 1), 1);
        due("rounds: the new one", f.rounds(50, 0), 0);
        spans();
    }

    private static void spans() {
        promise = 30;
        FoamCells f = new FoamCells();
        due("spans(0, 6, 0)", f.spans(0, 6, 0), 1);
        due("spans(0, 6, 1)", f.spans(0, 6, 1), 1);
        due("spans(0, 7, 0)", f.spans(0, 7, 0), 0);
        due("spans(0, -5, 1)", f.spans(0, -5, 1), 1);
        due("spans(0, 6, 2)", f.spans(0, 6, 2), -1);
        due("spans(16, 6, 0)", f.spans(16, 6, 0), -1);
        // 4, 5, 6, 7 each get SIDES more: a band in x; 4, 13, 9, 5 lead round in y
        f.swap(0);
        f.swap(6);
        rows("sides of 4 .. 7", new int[] {f.cell(4, 0), f.cell(5, 0), f.cell(6, 0), f.cell(7, 0)}, 7, 6, 7, 6);
        f.cut(9, 0, 1);
        f.cut(11, 5, 0);
        int[] got = new int[4];
        for (int c = 4; c < 8; c++) {
            got[c - 4] = f.cell(c, 0);
        }
        rows("sides of 4 .. 7", got, 8, 7, 8, 7);
        due("spans(4, 7, 0)", f.spans(4, 7, 0), 1);
        due("spans(4, 7, 1)", f.spans(4, 7, 1), 1);
        due("spans(4, 8, 0)", f.spans(4, 8, 0), 0);
        due("spans(4, 8, 1)", f.spans(4, 8, 1), 0);
        due("spans(6, 8, 0)", f.spans(6, 8, 0), 0);
    }

    private static void kinds() {
        about();
        ranked();
        pieces();
        all();
    }

    private static void about() {
        FoamCells f = new FoamCells();
        f.swap(0);
        promise = 24;
        // 4: 13, 1, 5, 8, 11, 7, 0; 13 likewise: 41 + 41 of 14; 0 and 1: 7 + 7 + 6 + 6 + 6 each
        due("about(7, 0)", f.about(7, 0), 41);
        due("about(7, 1)", f.about(7, 1), 7);
        due("about(5, 0)", f.about(5, 0), 32);
        due("about(5, 1)", f.about(5, 1), 5);
        due("about(4, 0)", f.about(4, 0), -1);
        due("about(0, 0)", f.about(0, 0), -1);
        due("about(-7, 1)", f.about(-7, 1), -1);
        due("about(7, 2)", f.about(7, 2), -1);
        due("about(7, -1)", f.about(7, -1), -1);
        promise = 25;
        f.area(4, -50);
        rows("kind(7, ..)", new int[] {f.kind(7, 0), f.kind(7, 1), f.kind(7, 2), f.kind(7, 3), f.kind(7, -1)},
            2, 50, 82, NO, NO);
        rows("kind(0, ..)", new int[] {f.kind(0, 0), f.kind(0, 1), f.kind(0, 2)}, 0, 0, 0);
        rows("kind(-9, ..)", new int[] {f.kind(-9, 0), f.kind(-9, 1), f.kind(-9, 2)}, 0, 0, 0);
        promise = 26;
        due("pairs(7, 5)", f.pairs(7, 5), 4);
        due("pairs(5, 7)", f.pairs(5, 7), 4);
        due("pairs(7, 7)", f.pairs(7, 7), 1);
        due("pairs(5, 5)", f.pairs(5, 5), 0);
        due("pairs(7, 6)", f.pairs(7, 6), 14 - 2 - 4);
        due("pairs(6, 6)", f.pairs(6, 6), 48 - 4 - 1 - 8 - 6);
        due("pairs(-1, -1)", f.pairs(-1, -1), 0);
        due("pairs(0, 0)", f.pairs(0, 0), 0);
    }

    private static void ranked() {
        promise = 27;
        FoamCells f = new FoamCells();
        f.area(9, -3);
        f.area(2, 500);
        f.area(3, -3);
        rows("ranked", new int[] {f.ranked(-1), f.ranked(0), f.ranked(1), f.ranked(2), f.ranked(14), f.ranked(15),
            f.ranked(16)}, -1, 3, 9, 0, 15, 2, -1);
    }

    private static void pieces() {
        promise = 31;
        FoamCells f = new FoamCells();
        f.ring(6, 6);
        f.swap(0);
        f.swap(42);
        rows("pieces(7, ..)", new int[] {f.pieces(7, 0), f.pieces(7, 1), f.pieces(7, 2)}, 2, 2, 6);
        rows("pieces(6, ..)", new int[] {f.pieces(6, 0), f.pieces(6, 1), f.pieces(6, 2)}, 1, 32, 2);
        rows("pieces(0, ..)", new int[] {f.pieces(0, 0), f.pieces(0, 1), f.pieces(0, 2)}, 1, 36, 0);
        rows("pieces(8, ..)", new int[] {f.pieces(8, 0), f.pieces(8, 1), f.pieces(8, 2)}, 0, 0, -1);
        due("pieces(-1, 0)", f.pieces(-1, 0), -1);
        due("pieces(6, 3)", f.pieces(6, 3), -1);
        due("pieces(6, -1)", f.pieces(6, -1), -1);
        // 7 of 6, 31, 30 now: the larger piece
        f.cut(35, 0, 5);
        due("pieces(7, 1) is that of the largest", f.pieces(7, 1) > 2, true);
    }

    private static void all() {
        promise = 32;
        FoamCells f = new FoamCells();
        f.swap(0);
        f.area(7, -20);
        f.area(8, 900);
        f.length(9, 0);
        int[] row = new int[12];
        for (int what = -1; what < 11; what++) {
            row[what + 1] = f.all(what);
        }
        rows("all", row, NO, 4, 0, 1400 - 20 + 900, 900, -20, 470, 0, 48, 7, 5, NO);
        f = withThree();
        // 16's three WALLS can't
        due("all(7)", f.all(7), 48);
        due("all(9)", f.all(9), 3);
        due("all(0)", f.all(0), 9 + 3);
        f = new FoamCells();
        f.area(0, 101);
        f.cut(0, 0, 1);
        f.area(0, 101);
        due("all(3): that of 0", f.all(3), 101);
        due("all(8): that of 0 too", f.all(8), 7);
        f.ring(4, 4);
        f.area(0, 99);
        f.swap(0);
        f.swap(1);
        due("all(4): that of 0", f.all(4), 99);
        due("all(9): that of 0", f.all(9), 4);
        promise = 33;
        f = withThree();
        due("easiest()", new FoamCells().easiest(), -1);
        // 3, 4, 8 are alike: 7 and 7 by 3 and 6
        due("easiest()", f.easiest(), 3);
        f.swap(3);
        f.swap(3);
        due("easiest()", f.easiest(), 3);
    }

    private static void onPaper() {
        lowest();
        reach();
        ahead();
        lastSteps();
        rested();
    }

    private static void lowest() {
        promise = 34;
        FoamCells f = new FoamCells();
        f.swap(0);
        f.swap(30);
        rows("lowest", new int[] {f.lowest(-1), f.lowest(0), f.lowest(1), f.lowest(2), f.lowest(3)}, -1, 8, 4, 0, -1);
        due("nothing has changed", f.all(0), 8);
        due("nothing is logged", f.count(10), 2);
        f.ring(4, 4);
        rows("lowest", new int[] {f.lowest(0), f.lowest(1), f.lowest(2)}, 0, 0, 0);
        f.swap(15);
        f.swap(37);
        rows("lowest", new int[] {f.lowest(0), f.lowest(1), f.lowest(2)}, 8, 4, 0);
    }

    private static void reach() {
        promise = 35;
        FoamCells f = new FoamCells();
        rows("reach(0, .., 0)", new int[] {f.reach(0, 3, 0), f.reach(0, 4, 0), f.reach(0, 5, 0), f.reach(0, 6, 0),
            f.reach(0, 7, 0), f.reach(0, 8, 0), f.reach(0, 9, 0)}, -1, 2, 1, 0, 1, 2, -1);
        rows("reach(0, .., 1)", new int[] {f.reach(0, 3, 1), f.reach(0, 4, 1), f.reach(0, 5, 1), f.reach(0, 6, 1),
            f.reach(0, 7, 1), f.reach(0, 8, 1), f.reach(0, 9, 1)}, -1, 0, 0, -1, 5, 5, -1);
        due("reach(0, 6, 2)", f.reach(0, 6, 2), -1);
        due("reach(0, 6, -1)", f.reach(0, 6, -1), -1);
        due("reach(16, 6, 0)", f.reach(16, 6, 0), -1);
        due("reach(-1, 6, 0)", f.reach(-1, 6, 0), -1);
        due("nothing has changed", f.count(4) + f.all(0), 0);
        f = withThree();
        due("reach(16, 2, 0)", f.reach(16, 2, 0), -1);
        due("reach(16, 4, 1)", f.reach(16, 4, 1), 3);
    }

    private static void ahead() {
        FoamCells f = new FoamCells();
        promise = 36;
        due("alike()", f.alike(), 1);
        f.swap(0);
        due("alike()", f.alike(), 1);
        f.length(0, 4);
        due("alike()", f.alike(), -1);
        f = new FoamCells();
        f.cut(5, 0, 1);
        f.area(16, 5);
        due("alike()", f.alike(), 5);
        f = withThree();
        f.area(16, 4);
        promise = 37;
        rows("until", new int[] {f.until(99), f.until(17), f.until(16), f.until(-1), f.until(NO)}, 0, 0, 2, -1, -1);
        promise = 40;
        rows("later(0, ..)", new int[] {f.later(0, 0), f.later(0, 1), f.later(0, 2), f.later(0, 3), f.later(0, 4)},
            17, 12, 0, 0, 4);
        rows("later(1, ..)", new int[] {f.later(1, 0), f.later(1, 3), f.later(1, 4)}, 17, 0, 1);
        rows("later(2, ..)", new int[] {f.later(2, 0), f.later(2, 1), f.later(2, 2), f.later(2, 3), f.later(2, 4)},
            16, 0, 0, 1, 52);
        due("later(-1, 0)", f.later(-1, 0), NO);
        due("later(51, 0)", f.later(51, 0), NO);
        due("later(50, 0)", f.later(50, 0), 16);
        due("later(1, 5)", f.later(1, 5), NO);
        due("later(1, -1)", f.later(1, -1), NO);
        promise = 41;
        rows("gone", new int[] {f.gone(16), f.gone(0), f.gone(17), f.gone(-1), f.gone(48)}, 2, -1, -1, -1, -1);
        promise = 42;
        rows("first", new int[] {f.first(0), f.first(1), f.first(2), f.first(-1)}, -1, 2, -1, -1);
        f.vanish(16);
        f.swap(0);
        rows("first", new int[] {f.first(0), f.first(1)}, 3, -1);
        due("nothing has changed", f.count(3), 0);
        rows("log", log(f, 0), 0, 0, 0);
    }

    private static FoamCells restless(int seed) {
        FoamCells f = new FoamCells();
        for (int k = 0; k < 4; k++) {
            f.cut((seed / (k + 1) + 5 * k) % 16, 0, 1);
        }
        f.shake(seed, 10, 99);
        f.rate(3);
        return f;
    }

    /** Foams that were sought for what happens just by the last STEP that is looked at, or just behind it. */
    private static void lastSteps() {
        promise = 37;
        FoamCells f = restless(87);
        due("until(15): by 99", f.until(15), 99);
        f.steps(50);
        f.steps(48);
        due("cells", f.count(0), 16);
        f.steps(1);
        due("cells", f.count(0), 15);
        f = restless(89);
        due("until(15): by 100", f.until(15), -1);
        f.steps(50);
        f.steps(50);
        due("cells", f.count(0), 15);
        promise = 41;
        f = restless(589);
        due("gone(18): by 50", f.gone(18), 50);
        promise = 42;
        due("first(1): by 50", f.first(1), 50);
        f = restless(18);
        due("first(1): by 51", f.first(1), -1);
        promise = 41;
        due("gone(17): by 51", f.gone(17), -1);
        f.steps(50);
        f.steps(1);
        due("17 is gone", cellThrows(f, 17, 0), true);
    }

    private static void rested() {
        promise = 38;
        FoamCells f = new FoamCells();
        f.shake(1, 99, 99);
        int strain = f.all(0);
        due("rested(0, 10, 99, 99, 0)", f.rested(0, 10, 99, 99, 0), 4);
        due("rested(0, 10, 99, 99, 1)", f.rested(0, 10, 99, 99, 1), 3);
        due("rested(3, 1, 99, 99, 0)", f.rested(3, 1, 99, 99, 0), 4);
        due("nothing has changed", f.all(0), strain);
        f = new FoamCells();
        due("of like ones the first", f.rested(7, 5, 1, 0, 1), 7);
        due("of like ones the first", f.rested(0, 5, 1, 0, 1), 0);
        due("rested(999999, 1, 1, 0, 1)", f.rested(999999, 1, 1, 0, 1), 999999);
        due("rested(999999, 2, 1, 0, 1)", f.rested(999999, 2, 1, 0, 1), -1);
        due("rested(999990, 10, 1, 0, 1)", f.rested(999990, 10, 1, 0, 1), 999990);
        due("rested(999991, 10, 1, 0, 1)", f.rested(999991, 10, 1, 0, 1), -1);
        due("rested(-1, 2, 1, 0, 1)", f.rested(-1, 2, 1, 0, 1), -1);
        due("rested(1, 0, 1, 0, 1)", f.rested(1, 0, 1, 0, 1), -1);
        due("rested(1, 11, 1, 0, 1)", f.rested(1, 11, 1, 0, 1), -1);
        due("rested(1, 1, 0, 0, 1)", f.rested(1, 1, 0, 0, 1), -1);
        due("rested(1, 1, 100, 0, 1)", f.rested(1, 1, 100, 0, 1), -1);
        due("rested(1, 1, 1, -1, 1)", f.rested(1, 1, 1, -1, 1), -1);
        due("rested(1, 1, 1, 100, 1)", f.rested(1, 1, 1, 100, 1), -1);
        due("rested(1, 1, 1, 0, 2)", f.rested(1, 1, 1, 0, 2), -1);
        due("rested(1, 1, 1, 0, -1)", f.rested(1, 1, 1, 0, -1), -1);
        due("not refused", f.count(11), 0);
        promise = 39;
        f.swap(0);
        f.swap(30);
        rows("resting", new int[] {f.resting(0), f.resting(1), f.resting(2), f.resting(-1)}, 2, 0, -1, -1);
        due("nothing has changed", f.all(0), 8);
    }

    private static void been() {
        promise = 43;
        FoamCells f = new FoamCells();
        due("log(0, 0)", f.log(0, 0), -1);
        f.steps(2);
        f.cut(7, 0, 3);
        for (int k = 0; k < 29; k++) {
            f.swap(3);
        }
        rows("the last of 30", log(f, 29), 2, 2, 7);
        due("length", f.count(10), 30);
        f.swap(30);
        due("length", f.count(10), 30);
        rows("the last of 30", log(f, 29), 0, 2, 3);
        rows("the latest", log(f, 0), 0, 2, 30);
        due("log(30, 0)", f.log(30, 0), -1);
        due("log(-1, 0)", f.log(-1, 0), -1);
        due("log(0, 3)", f.log(0, 3), -1);
        due("log(0, -1)", f.log(0, -1), -1);
        promise = 44;
        rows("counts", counts(f), 17, 51, 34, 2, 30, 0, 1, 4, 4, 1, 30, 0, 0, 0, 0, 0);
        due("count(-1)", f.count(-1), -1);
        due("count(16)", f.count(16), -1);
        due("a query is never refused", f.count(11), 0);
    }
}
