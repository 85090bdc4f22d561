import java.util.ArrayList;
import java.util.Arrays;
import java.util.List;
import java.util.NoSuchElementException;
import java.util.Random;

/** Long runs of calls that a fixed source of numbers picks, each answer against that of Model. */
public final class AgainstModelTest {
    private static int wrong = 0;
    private static long asked = 0;
    private static final StringBuilder RUN = new StringBuilder();
    private static final String[] NAMES = {"ring", "rate", "area", "length", "swap", "vanish", "cut", "burst", "shake",
        "steps", "relax", "keep", "again"};
    private static final int[] NUMBERS = {2, 1, 2, 2, 1, 1, 3, 1, 3, 1, 0, 1, 1};

    /** What later calls of one object answer is free. */
    private static final int MOST_CALLS = 512;

    private final Random pick;
    private final Model model = new Model();
    private final List<int[]> changes = new ArrayList<>();
    private FoamCells foam = new FoamCells();
    private int used = 0;

    private AgainstModelTest(long seed) {
        pick = new Random(seed);
    }

    public static void main(String[] args) {
        int runs = args.length > 0 ? Integer.parseInt(args[0]) : 120;
        int from = args.length > 1 ? Integer.parseInt(args[1]) : 0;
        for (int seed = from; seed < from + runs && wrong < 5; seed++) {
            RUN.setLength(0);
            new AgainstModelTest(seed).run(seed);
        }
        System.out.println(asked + " answers compared");
        System.out.println(wrong == 0 ? "all answers are as due" : wrong + " answers are not as due");
        if (wrong != 0) {
            System.exit(1);
        }
    }

    private void run(int seed) {
        int style = seed % 6;
        int calls = 0;
        if (style > 0) {
            calls += change(0, 3 + pick.nextInt(4), 3 + pick.nextInt(4), 0);
        }
        int before = wrong;
        while (calls < 500 && wrong == before) {
            int burst = 1 + pick.nextInt(6);
            for (int k = 0; k < burst; k++) {
                calls += changeSome(style);
            }
            String bad = model.broken();
            if (bad != null) {
                wrong++;
                System.out.println("run " + seed + ": the model is broken: " + bad);
            }
            for (int k = 0; k < 8; k++) {
                calls += askSome();
            }
        }
        if (wrong == before) {
            askEverything();
        }
        if (wrong > before) {
            System.out.println("run " + seed + RUN);
        }
    }

    private int changeSome(int style) {
        int[][] often = {
            {1, 2, 3, 4, 5, 6, 7, 8, 9, 10, 11, 12, 0},
            {4, 4, 4, 4, 4, 10},
            {6, 6, 6, 6, 4, 5, 5, 9},
            {6, 7, 6, 7, 6, 4, 3, 2},
            {2, 3, 9, 9, 4, 6, 6, 1, 5},
            {8, 10, 9, 6, 4, 11, 12, 2, 3, 2},
        };
        int[] row = often[style];
        int which = row[pick.nextInt(row.length)];
        int wall = someWall();
        int cell = someCell();
        switch (which) {
            case 0: return change(0, pick.nextInt(20) == 0 ? some(2, 7) : 7, some(2, 7), 0);
            case 1: return change(1, some(-1, 10), 0, 0);
            case 2: return change(2, cell, pick.nextInt(3) > 0 ? some(-20, 12) : some(-1002, 10002), 0);
            case 3: return change(3, wall, pick.nextInt(3) > 0 ? some(0, 6) : some(-2, 101), 0);
            case 4: return change(4, wall, 0, 0);
            case 5: return change(5, pick.nextInt(2) == 0 ? cell : cellOfSides(3), 0, 0);
            case 6: return change(6, cell, some(-1, 7), some(-1, 7));
            case 7: return change(7, wall, 0, 0);
            case 8: return change(8, some(-1, 1000000), some(0, 100), pick.nextBoolean() ? some(-1, 8) : some(-1, 100));
            case 9: return change(9, pick.nextInt(3) > 0 ? some(1, 4) : some(-1, 51), 0, 0);
            case 10: return change(10, 0, 0, 0);
            case 11: return change(11, some(-1, 2), 0, 0);
            default: return change(12, some(-1, 2), 0, 0);
        }
    }

    private int change(int which, int a, int b, int c) {
        int[] change = {which, a, b, c};
        changes.add(change);
        int due = onModel(change);
        return see(NAMES[which], onFoam(change), due, Arrays.copyOfRange(change, 1, 1 + NUMBERS[which]));
    }

    private int onFoam(int[] c) {
        switch (c[0]) {
            case 0: return foam.ring(c[1], c[2]);
            case 1: return foam.rate(c[1]);
            case 2: return foam.area(c[1], c[2]);
            case 3: return foam.length(c[1], c[2]);
            case 4: return foam.swap(c[1]);
            case 5: return foam.vanish(c[1]);
            case 6: return foam.cut(c[1], c[2], c[3]);
            case 7: return foam.burst(c[1]);
            case 8: return foam.shake(c[1], c[2], c[3]);
            case 9: return foam.steps(c[1]);
            case 10: return foam.relax();
            case 11: return foam.keep(c[1]) ? 1 : 0;
            default: return foam.again(c[1]) ? 1 : 0;
        }
    }

    private int onModel(int[] c) {
        switch (c[0]) {
            case 0: return model.ring(c[1], c[2]);
            case 1: return model.rate(c[1]);
            case 2: return model.area(c[1], c[2]);
            case 3: return model.length(c[1], c[2]);
            case 4: return model.swap(c[1]);
            case 5: return model.vanish(c[1]);
            case 6: return model.cut(c[1], c[2], c[3]);
            case 7: return model.burst(c[1]);
            case 8: return model.shake(c[1], c[2], c[3]);
            case 9: return model.steps(c[1]);
            case 10: return model.relax();
            case 11: return model.keep(c[1]) ? 1 : 0;
            default: return model.again(c[1]) ? 1 : 0;
        }
    }

    /** Another object to which the same has been done, as soon as one has been used for as many calls as it may. */
    private void renewIfUsed() {
        if (used < MOST_CALLS) {
            return;
        }
        foam = new FoamCells();
        for (int[] change : changes) {
            onFoam(change);
        }
        used = changes.size();
    }

    private int askSome() {
        int cell = someCell();
        int other = someCell();
        int wall = someWall();
        int n = some(2, 10);
        switch (pick.nextInt(31)) {
            case 0: return cell(cell, some(-1, 6));
            case 1: return side(cell, some(-1, 8), some(-1, 3));
            case 2: return wall(wall, some(-1, 7));
            case 3: return between(cell, other, some(-1, 2));
            case 4: return see("far", foam.far(cell, other), model.far(cell, other), cell, other);
            case 5: return shell(cell, some(-1, 5));
            case 6: return shellOf(cell, some(-1, 4), some(-1, 9));
            case 7: return way(cell, other, some(-1, 4));
            case 8: return see("mutual", foam.mutual(cell, other), model.mutual(cell, other), cell, other);
            case 9: return about(n, some(-1, 2));
            case 10: return kind(n, some(-1, 3));
            case 11: return pairs(n, some(2, 10));
            case 12: return ranked(some(-1, 49));
            case 13: return around(cell, some(-2, 2), some(-2, 2));
            case 14: return rounds(wall, some(-1, 2));
            case 15: return spans(cell, some(-1, 8), some(-1, 2));
            case 16: return pieces(some(-1, 10), some(-1, 3));
            case 17: return all(some(-1, 10));
            case 18: return see("easiest", foam.easiest(), model.easiest());
            case 19: return lowest(pick.nextInt(12) == 0 ? some(-1, 3) : some(-1, 1));
            case 20: return reach(cell, some(1, 10), some(-1, 2));
            case 21: return see("alike", foam.alike(), model.alike());
            case 22: return until(some(-1, 48));
            case 23: return rested();
            case 24: return resting(some(-1, 2));
            case 25: return later(some(-1, 51), some(-1, 5));
            case 26: return see("gone", foam.gone(cell), model.gone(cell), cell);
            case 27: return first(some(-1, 2));
            case 28: return log(some(-1, 31), some(-1, 3));
            default: return count(some(-1, 16));
        }
    }

    private void askEverything() {
        for (int c = -1; c <= 48; c++) {
            for (int what = -1; what <= 6; what++) {
                cell(c, what);
            }
            for (int i = -1; i < 20; i++) {
                for (int what = -1; what <= 3; what++) {
                    side(c, i, what);
                }
            }
            for (int d = -1; d <= 48; d++) {
                see("far", foam.far(c, d), model.far(c, d), c, d);
                see("mutual", foam.mutual(c, d), model.mutual(c, d), c, d);
                between(c, d, 0);
                between(c, d, 1);
                shell(c, d);
                shellOf(c, 1 + (d & 1), d);
                way(c, d, 2);
            }
            for (int x = -1; x <= 1; x++) {
                for (int y = -1; y <= 1; y++) {
                    around(c, x, y);
                }
            }
            for (int n = 3; n <= 8; n++) {
                spans(c, n, 0);
                spans(c, n, 1);
            }
            ranked(c);
        }
        for (int w = -1; w <= 144; w++) {
            for (int what = -1; what <= 7; what++) {
                wall(w, what);
            }
            rounds(w, 0);
            rounds(w, 1);
        }
        for (int k = -1; k <= 40; k++) {
            for (int what = -1; what <= 3; what++) {
                about(k, what);
                kind(k, what);
                pieces(k, what);
                log(k, what);
            }
            pairs(k, 6);
            pairs(k, k);
            all(k);
            count(k);
        }
        first(0);
        first(1);
        resting(0);
        resting(1);
    }

    private int cell(int c, int what) {
        int got;
        int due;
        try {
            got = foam.cell(c, what);
        } catch (NoSuchElementException e) {
            got = 123456789;
        }
        try {
            due = model.cell(c, what);
        } catch (NoSuchElementException e) {
            due = 123456789;
        }
        return see("cell", got, due, c, what);
    }

    private int side(int c, int i, int what) {
        int got;
        int due;
        try {
            got = foam.side(c, i, what);
        } catch (NoSuchElementException e) {
            got = 123456789;
        }
        try {
            due = model.side(c, i, what);
        } catch (NoSuchElementException e) {
            due = 123456789;
        }
        return see("side", got, due, c, i, what);
    }

    private int wall(int w, int what) {
        return see("wall", foam.wall(w, what), model.wall(w, what), w, what);
    }

    private int between(int a, int b, int what) {
        return see("between", foam.between(a, b, what), model.between(a, b, what), a, b, what);
    }

    private int shell(int c, int d) {
        return see("shell", foam.shell(c, d), model.shell(c, d), c, d);
    }

    private int shellOf(int c, int d, int i) {
        return see("shellOf", foam.shellOf(c, d, i), model.shellOf(c, d, i), c, d, i);
    }

    private int way(int a, int b, int i) {
        return see("way", foam.way(a, b, i), model.way(a, b, i), a, b, i);
    }

    private int about(int n, int what) {
        return see("about", foam.about(n, what), model.about(n, what), n, what);
    }

    private int kind(int n, int what) {
        return see("kind", foam.kind(n, what), model.kind(n, what), n, what);
    }

    private int pairs(int n, int m) {
        return see("pairs", foam.pairs(n, m), model.pairs(n, m), n, m);
    }

    private int ranked(int i) {
        return see("ranked", foam.ranked(i), model.ranked(i), i);
    }

    private int around(int c, int x, int y) {
        return see("around", foam.around(c, x, y), model.around(c, x, y), c, x, y);
    }

    private int rounds(int w, int what) {
        return see("rounds", foam.rounds(w, what), model.rounds(w, what), w, what);
    }

    private int spans(int c, int n, int what) {
        return see("spans", foam.spans(c, n, what), model.spans(c, n, what), c, n, what);
    }

    private int pieces(int n, int what) {
        return see("pieces", foam.pieces(n, what), model.pieces(n, what), n, what);
    }

    private int all(int what) {
        return see("all", foam.all(what), model.all(what), what);
    }

    private int lowest(int n) {
        // the model's two SWAPS cost some 20,000 copies: only of small foams
        int most = n == 2 && model.rows.size() > 12 ? 1 : n;
        return see("lowest", foam.lowest(most), model.lowest(most), most);
    }

    private int reach(int c, int n, int what) {
        boolean dear = model.rows.size() > 12 && model.rows.containsKey(c) && Math.abs(model.sides(c) - n) > 1;
        int wish = dear && pick.nextInt(6) > 0 ? model.sides(c) + 1 : n;
        return see("reach", foam.reach(c, wish, what), model.reach(c, wish, what), c, wish, what);
    }

    private int until(int n) {
        return see("until", foam.until(n), model.until(n), n);
    }

    private int rested() {
        int seed = pick.nextInt(4) == 0 ? some(999988, 1000000) : some(-1, 999999);
        int many = pick.nextInt(4) == 0 ? some(0, 11) : some(1, 3);
        int n = pick.nextInt(4) == 0 ? some(0, 100) : some(1, 20);
        int h = some(-1, 20);
        int what = some(-1, 2);
        return see("rested", foam.rested(seed, many, n, h, what), model.rested(seed, many, n, h, what),
            seed, many, n, h, what);
    }

    private int resting(int what) {
        return see("resting", foam.resting(what), model.resting(what), what);
    }

    private int later(int n, int what) {
        return see("later", foam.later(n, what), model.later(n, what), n, what);
    }

    private int first(int what) {
        return see("first", foam.first(what), model.first(what), what);
    }

    private int log(int i, int what) {
        return see("log", foam.log(i, what), model.log(i, what), i, what);
    }

    private int count(int what) {
        return see("count", foam.count(what), model.count(what), what);
    }

    private int see(String name, int got, int due, int... args) {
        asked++;
        StringBuilder call = new StringBuilder(name).append('(');
        for (int k = 0; k < args.length; k++) {
            call.append(k == 0 ? "" : ", ").append(args[k]);
        }
        call.append(") ").append(got);
        RUN.append('\n').append(call);
        if (got != due) {
            wrong++;
            RUN.append(", due is ").append(due);
        }
        used++;
        renewIfUsed();
        return 1;
    }

    private int some(int from, int to) {
        return from + pick.nextInt(to - from + 1);
    }

    /** Mostly one that is there. */
    private int someCell() {
        if (pick.nextInt(12) == 0) {
            return some(-2, 50);
        }
        Object[] there = model.rows.keySet().toArray();
        return (Integer) there[pick.nextInt(there.length)];
    }

    private int someWall() {
        if (pick.nextInt(12) == 0) {
            return some(-2, 146);
        }
        Object[] there = model.walls.keySet().toArray();
        return (Integer) there[pick.nextInt(there.length)];
    }

    private int cellOfSides(int n) {
        for (int c : model.rows.keySet()) {
            if (model.sides(c) == n && pick.nextInt(2) == 0) {
                return c;
            }
        }
        return someCell();
    }
}
