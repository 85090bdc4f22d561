import java.util.NoSuchElementException;

/** What the tests of the document's sentences share: which sentence is asked, what is due, how a foam looks. */
final class Due {
    static final int NO = Integer.MIN_VALUE;
    static final int MOST = Integer.MAX_VALUE;
    /** Stands for a NoSuchElementException among answers. */
    static final int THROWS = 987654321;
    /** Numbers that no CELL of a lively foam has: outside all, free, gone. */
    static final int[] NO_CELLS = {NO, -2, -1, 15, 17, 18, 47, 48, 49, MOST};
    static final int[] NO_WALLS = {NO, -2, -1, 26, 45, 46, 51, 53, 54, 143, 144, 145, MOST};

    private static String sentence = "";
    private static int asked = 0;
    private static int wrong = 0;

    /** A way to make one and the same foam more than once. */
    interface Maker {
        FoamCells make();
    }

    /** A call, or a few. */
    interface Call {
        int on(FoamCells f);
    }

    private Due() {
    }

    static void says(String words) {
        sentence = words;
    }

    static void due(String call, int got, int want) {
        asked++;
        if (got != want) {
            wrong++;
            System.out.println("\"" + sentence + "\": " + call + " answered " + got + ", due is " + want);
        }
    }

    static void due(String call, boolean got, boolean want) {
        due(call, got ? 1 : 0, want ? 1 : 0);
    }

    static void row(String call, int[] got, int... want) {
        due(call + ": how many", got.length, want.length);
        for (int k = 0; k < Math.min(got.length, want.length); k++) {
            due(call + ", no. " + k, got[k], want[k]);
        }
    }

    static void text(String call, String got, String want) {
        asked++;
        if (!got.equals(want)) {
            wrong++;
            int at = 0;
            while (at < got.length() && at < want.length() && got.charAt(at) == want.charAt(at)) {
                at++;
            }
            System.out.println("\"" + sentence + "\": " + call + ": it is .." + piece(got, at) + ", due is .."
                + piece(want, at));
        }
    }

    private static String piece(String text, int at) {
        return text.substring(Math.max(0, at - 30), Math.min(text.length(), at + 30));
    }

    /** The call answers so, is counted as refused by that alone, and leaves the foam as it was. */
    static void refused(String name, Maker maker, Call call, int answer) {
        asIs(name, maker, call, answer, answer);
    }

    /** The call answers so, is not counted as refused, and leaves the foam as it was. */
    static void leaves(String name, Maker maker, Call call, int answer) {
        asIs(name, maker, call, answer, 0);
    }

    private static void asIs(String name, Maker maker, Call call, int answer, int refusedBy) {
        FoamCells f = maker.make();
        int[] before = each(11, 14, f::count);
        due(name, call.on(f), answer);
        for (int k = 0; k < 4; k++) {
            due(name + ", then count(" + (11 + k) + ")", f.count(11 + k), before[k] + (refusedBy == -1 - k ? 1 : 0));
        }
        text(name + " changes nothing", picture(maker, call), picture(maker, g -> 0));
    }

    /** The answers of a call for each number of a range. */
    static int[] each(int from, int to, java.util.function.IntUnaryOperator call) {
        int[] got = new int[to - from + 1];
        for (int k = from; k <= to; k++) {
            got[k - from] = call.applyAsInt(k);
        }
        return got;
    }

    static int cell(FoamCells f, int cell, int what) {
        try {
            return f.cell(cell, what);
        } catch (NoSuchElementException e) {
            return THROWS;
        }
    }

    static int side(FoamCells f, int cell, int i, int what) {
        try {
            return f.side(cell, i, what);
        } catch (NoSuchElementException e) {
            return THROWS;
        }
    }

    static int[] walls(FoamCells f, int cell) {
        return each(0, f.cell(cell, 0) - 1, i -> f.side(cell, i, 0));
    }

    static int[] neighbours(FoamCells f, int cell) {
        return each(0, f.cell(cell, 0) - 1, i -> f.side(cell, i, 1));
    }

    static int[] log(FoamCells f, int i) {
        return each(0, 2, what -> f.log(i, what));
    }

    /**
     * What can be seen of a foam behind a call, but for what was refused. It is looked at in parts, each part on a foam
     * of its own, since no object is used for more than 512 calls.
     */
    static String picture(Maker maker, Call call) {
        StringBuilder s = new StringBuilder();
        FoamCells f = made(maker, call);
        for (int k = 0; k < 16; k++) {
            if (k < 11 || k > 14) {
                s.append(f.count(k)).append(' ');
            }
        }
        for (int i = 0; i < 30; i++) {
            s.append("| ").append(f.log(i, 0)).append(' ').append(f.log(i, 1)).append(' ').append(f.log(i, 2));
        }
        f = made(maker, call);
        for (int c = 0; c < 48; c++) {
            int sides = cell(f, c, 0);
            if (sides != THROWS) {
                s.append("; ").append(c).append(": ").append(sides).append(' ').append(f.cell(c, 1));
            }
        }
        for (int from = 0; from < 144; from += 36) {
            addWalls(s, made(maker, call), from, from + 36);
        }
        return s.toString();
    }

    private static FoamCells made(Maker maker, Call call) {
        FoamCells f = maker.make();
        call.on(f);
        return f;
    }

    private static void addWalls(StringBuilder s, FoamCells f, int from, int to) {
        for (int w = from; w < to; w++) {
            int a = f.wall(w, 0);
            if (a >= 0) {
                s.append("; ").append(w).append(": ").append(a).append(' ').append(f.wall(w, 1));
                s.append(' ').append(f.wall(w, 2)).append(' ').append(f.wall(w, 3)).append(' ').append(f.wall(w, 4));
                s.append(' ').append(f.rounds(w, 0)).append(' ').append(f.rounds(w, 1));
            }
        }
    }

    /** The SIDES of both ENDS less those of both CELLS: by how much a STEP lengthens a WALL. */
    static int growth(FoamCells f, int wall) {
        return f.cell(f.wall(wall, 2), 0) + f.cell(f.wall(wall, 3), 0)
            - f.cell(f.wall(wall, 0), 0) - f.cell(f.wall(wall, 1), 0);
    }

    /** So that no WALL comes to LENGTH 0 soon. */
    static void lengthen(FoamCells f, int length) {
        for (int w = 0; w < 144; w++) {
            if (f.wall(w, 0) >= 0) {
                f.length(w, length);
            }
        }
    }

    /** The least SEED that draws a WALL first. */
    static int seedOf(int wall) {
        for (int seed = 0; seed < 1000000; seed++) {
            if ((1103L * seed + 12345) % 1000003 % 144 == wall) {
                return seed;
            }
        }
        return -1;
    }

    static FoamCells ring(int w, int h) {
        FoamCells f = new FoamCells();
        f.ring(w, h);
        return f;
    }

    /**
     * Of 4 by 4: 15 went by a BURST (with WALLS 26, 45, 46), 17 has VANISHED (with 51 to 53), 16 has 3 SIDES; something
     * of each kind is in the LOG, three calls were refused, one foam is kept.
     */
    static FoamCells lively() {
        FoamCells f = new FoamCells();
        f.rate(2);
        f.rate(10);
        f.length(99, 5);
        f.vanish(3);
        f.length(0, 0);
        f.steps(2);
        f.swap(0);
        f.keep(1);
        f.cut(5, 0, 1);
        f.cut(8, 0, 1);
        f.vanish(17);
        f.burst(45);
        f.area(11, -5);
        f.length(33, 7);
        f.swap(30);
        return f;
    }

    static FoamCells full() {
        FoamCells f = ring(6, 6);
        for (int k = 0; k < 12; k++) {
            f.cut(k, 0, 1);
        }
        return f;
    }

    static FoamCells swapped(FoamCells f, int... walls) {
        for (int w : walls) {
            due("swap(" + w + ") is done", f.swap(w) >= 0, true);
        }
        return f;
    }

    static void end() {
        System.out.println(asked + " answers asked");
        System.out.println(wrong == 0 ? "all answers are as due" : wrong + " answers are not as due");
        if (wrong != 0) {
            System.exit(1);
        }
    }
}
