import java.util.NoSuchElementException;

/** What the tests of the document's sentences share: which sentence is asked, what is due, how a foam looks. */
final class Due {
    static final int NO = Integer.MIN_VALUE;
    static final int MOST = Integer.MAX_VALUE;
    /** Stands for a NoSuchElementException among answers. */
    static final int THROWS = 987654321;

    private static String sentence = "";
    private static int asked = 0;
    private static int wrong = 0;

    /** A way to make one and the same foam more than once. */
    interface Maker {
        FoamCells make();
    }

    /** A call, or a few. */
    interface Call {
        int on(FoamCells f);
    }

    private Due() {
    }

    static void says(String words) {
        sentence = words;
    }

    static void due(String call, int got, int want) {
        asked++;
        if (got != want) {
            wrong++;
            System.out.println("\"" + sentence + "\": " + call + " answered " + got + ", due is " + want);
        }
    }

    static void due(String call, boolean got, boolean want) {
        due(call, got ? 1 : 0, want ? 1 : 0);
    }

    static void row(String call, int[] got, int... want) {
        due(call + ": how many", got.length, want.length);
        for (int k = 0; k < Math.min(got.length, want.length); k++) {
            due(call + ", no. " + k, got[k], want[k]);
        }
    }

    static void text(String call, String got, String want) {
        asked++;
        if (!got.equals(want)) {
            wrong++;
            System.out.println("\"" + sentence + "\": " + call + ":\n  it is " + got + "\n  due is " + want);
        }
    }

    /** The call answers so, is counted as refused by that alone, and leaves the foam as its twin is. */
    static void refused(String name, Maker maker, Call call, int answer) {
        FoamCells f = maker.make();
        FoamCells twin = maker.make();
        int[] before = new int[4];
        for (int k = 0; k < 4; k++) {
            before[k] = f.count(11 + k);
        }
        due(name, call.on(f), answer);
        for (int k = 0; k < 4; k++) {
            due(name + ", then count(" + (11 + k) + ")", f.count(11 + k), before[k] + (answer == -1 - k ? 1 : 0));
        }
        text(name + " changes nothing", picture(f), picture(twin));
    }

    /** The call answers so and leaves the foam, and how many were refused, as its twin has it. */
    static void leaves(String name, Maker maker, Call call, int answer) {
        FoamCells f = maker.make();
        FoamCells twin = maker.make();
        due(name, call.on(f), answer);
        for (int k = 11; k < 15; k++) {
            due(name + ", then count(" + k + ")", f.count(k), twin.count(k));
        }
        text(name + " changes nothing", picture(f), picture(twin));
    }

    /** The answers of a call for each number of a range. */
    static int[] each(int from, int to, java.util.function.IntUnaryOperator call) {
        int[] got = new int[to - from + 1];
        for (int k = from; k <= to; k++) {
            got[k - from] = call.applyAsInt(k);
        }
        return got;
    }

    static int cell(FoamCells f, int cell, int what) {
        try {
            return f.cell(cell, what);
        } catch (NoSuchElementException e) {
            return THROWS;
        }
    }

    static int side(FoamCells f, int cell, int i, int what) {
        try {
            return f.side(cell, i, what);
        } catch (NoSuchElementException e) {
            return THROWS;
        }
    }

    static int[] walls(FoamCells f, int cell) {
        return each(0, f.cell(cell, 0) - 1, i -> f.side(cell, i, 0));
    }

    static int[] neighbours(FoamCells f, int cell) {
        return each(0, f.cell(cell, 0) - 1, i -> f.side(cell, i, 1));
    }

    static int[] log(FoamCells f, int i) {
        return each(0, 2, what -> f.log(i, what));
    }

    /** All that can be seen of a foam but the LOG's older part and what was refused, in some 300 calls for 12 CELLS. */
    static String picture(FoamCells f) {
        StringBuilder s = new StringBuilder();
        for (int k = 0; k < 16; k++) {
            if (k < 11 || k > 14) {
                s.append(f.count(k)).append(' ');
            }
        }
        for (int i = 0; i < 5; i++) {
            s.append("| ").append(f.log(i, 0)).append(' ').append(f.log(i, 1)).append(' ').append(f.log(i, 2));
        }
        for (int c = 0; c < 48; c++) {
            int sides = cell(f, c, 0);
            if (sides != THROWS) {
                s.append("; ").append(c).append(": ").append(sides).append(' ').append(f.cell(c, 1));
            }
        }
        for (int w = 0; w < 144; w++) {
            int a = f.wall(w, 0);
            if (a >= 0) {
                s.append("; ").append(w).append(": ").append(a).append(' ').append(f.wall(w, 1));
                s.append(' ').append(f.wall(w, 2)).append(' ').append(f.wall(w, 4));
                s.append(' ').append(f.rounds(w, 0)).append(' ').append(f.rounds(w, 1));
            }
        }
        return s.toString();
    }

    /** The SIDES of both ENDS less those of both CELLS: by how much a STEP lengthens a WALL. */
    static int growth(FoamCells f, int wall) {
        return f.cell(f.wall(wall, 2), 0) + f.cell(f.wall(wall, 3), 0)
            - f.cell(f.wall(wall, 0), 0) - f.cell(f.wall(wall, 1), 0);
    }

    /** So that no WALL comes to LENGTH 0 soon. */
    static void lengthen(FoamCells f, int length) {
        for (int w = 0; w < 144; w++) {
            if (f.wall(w, 0) >= 0) {
                f.length(w, length);
            }
        }
    }

    static FoamCells ring(int w, int h) {
        FoamCells f = new FoamCells();
        f.ring(w, h);
        return f;
    }

    static FoamCells swapped(FoamCells f, int... walls) {
        for (int w : walls) {
            due("swap(" + w + ") is done", f.swap(w) >= 0, true);
        }
        return f;
    }

    static void end() {
        System.out.println(asked + " answers asked");
        System.out.println(wrong == 0 ? "all answers are as due" : wrong + " answers are not as due");
        if (wrong != 0) {
            System.exit(1);
        }
    }
}
