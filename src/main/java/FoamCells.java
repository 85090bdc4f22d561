import java.util.NoSuchElementException;

/** Soap cells in a plane that closes upon itself both ways; ../shared/DOC.md says what each call promises. */
public final class FoamCells {
    public static final int NONE = -1;

    private static final int CELLS = 48;
    private static final int WALLS = 144;
    private static final int HALVES = 288;
    private static final int LOG_ROOM = 30;
    private static final int KEPT = 2;

    private static final int FIRST_AREA = 100;
    private static final int FIRST_LENGTH = 10;
    private static final int MOST_LENGTH = 99;
    private static final int LEAST_AREA = -999;
    private static final int MOST_AREA = 9999;
    private static final int MOST_SEED = 999999;
    private static final int MOST_STEPS = 50;
    private static final int MOST_UNTIL = 99;
    /** Far above the SWAPS that STRAIN, which falls by each one, leaves room for. */
    private static final int MANY = 1000000;

    private static final int SWAPPED = 0;
    private static final int VANISHED = 1;
    private static final int CUT = 2;
    private static final int BURST = 3;

    private static final int WRONG_NUMBER = -1;
    private static final int NO_SUCH = -2;
    private static final int CANNOT = -3;
    private static final int NO_ROOM = -4;

    /** ROUNDS are followed from -2 to 2, in x and in y: five times five layers of CELLS. */
    private static final int BEYOND = 2;
    private static final int SPAN = 5;
    private static final int LAYERS = 25;

    private static final int[] TO_X = {1, 0, -1, -1, 0, 1};
    private static final int[] TO_Y = {0, 1, 1, 0, -1, -1};

    private final Foam now;
    private final Paper paper;
    private final Ways ways;
    private final Foam[] kept;

    public FoamCells() {
        now = new Foam();
        paper = new Paper();
        ways = new Ways();
        kept = new Foam[KEPT];
        now.begin(4, 4);
    }

    // ---- calls that change the foam ----

    public int ring(int w, int h) {
        if (w < 3 || w > 6 || h < 3 || h > 6) {
            return now.refuse(WRONG_NUMBER);
        }
        now.begin(w, h);
        return w * h;
    }

    public int rate(int rate) {
        if (rate < 0 || rate > 9) {
            return now.refuse(WRONG_NUMBER);
        }
        int before = now.pace;
        now.pace = rate;
        return before;
    }

    public int area(int cell, int area) {
        if (area < LEAST_AREA || area > MOST_AREA) {
            return now.refuse(WRONG_NUMBER);
        }
        if (!now.mesh.hasCell(cell)) {
            return now.refuse(NO_SUCH);
        }
        int before = now.mesh.areas[cell];
        now.mesh.areas[cell] = area;
        return before;
    }

    public int length(int wall, int length) {
        if (length < 0 || length > MOST_LENGTH) {
            return now.refuse(WRONG_NUMBER);
        }
        if (!now.mesh.hasWall(wall)) {
            return now.refuse(NO_SUCH);
        }
        int before = now.mesh.lengths[wall];
        now.mesh.lengths[wall] = length;
        return before;
    }

    public int swap(int wall) {
        if (!now.mesh.hasWall(wall)) {
            return now.refuse(NO_SUCH);
        }
        if (!now.mesh.canFlip(wall)) {
            return now.refuse(CANNOT);
        }
        int easing = now.mesh.easing(wall);
        now.flipWall(wall);
        return 1000 + easing;
    }

    public int vanish(int cell) {
        if (!now.mesh.hasCell(cell)) {
            return now.refuse(NO_SUCH);
        }
        if (!now.mesh.canShrink(cell)) {
            return now.refuse(CANNOT);
        }
        return now.shrinkCell(cell);
    }

    public int cut(int cell, int i, int j) {
        if (!now.mesh.hasCell(cell)) {
            return now.refuse(NO_SUCH);
        }
        int from = now.mesh.halfAt(cell, i);
        int to = now.mesh.halfAt(cell, j);
        if (from < 0 || to < 0 || from == to) {
            return now.refuse(WRONG_NUMBER);
        }
        int fresh = now.splitCell(cell, from, to);
        return fresh < 0 ? now.refuse(NO_ROOM) : fresh;
    }

    public int burst(int wall) {
        if (!now.mesh.hasWall(wall)) {
            return now.refuse(NO_SUCH);
        }
        if (!now.mesh.canJoin(wall)) {
            return now.refuse(CANNOT);
        }
        return now.joinAcross(wall);
    }

    public int shake(int seed, int n, int h) {
        if (!isShake(seed, n, h)) {
            return now.refuse(WRONG_NUMBER);
        }
        return now.jolt(seed, n, h);
    }

    public int steps(int n) {
        if (n < 1 || n > MOST_STEPS) {
            return now.refuse(WRONG_NUMBER);
        }
        int before = now.swaps + now.vanished;
        for (int k = 0; k < n; k++) {
            now.goOn();
        }
        return now.swaps + now.vanished - before;
    }

    public int relax() {
        return now.calm();
    }

    public boolean keep(int k) {
        if (k < 0 || k >= KEPT) {
            return false;
        }
        if (kept[k] == null) {
            kept[k] = new Foam();
        }
        kept[k].copyOf(now);
        return true;
    }

    public boolean again(int k) {
        if (k < 0 || k >= KEPT || kept[k] == null) {
            return false;
        }
        now.copyOf(kept[k]);
        return true;
    }

    // ---- one CELL, one WALL ----

    public int cell(int cell, int what) throws NoSuchElementException {
        if (!now.mesh.hasCell(cell)) {
            throw new NoSuchElementException("no such cell");
        }
        switch (what) {
            case 0: return now.mesh.sides[cell];
            case 1: return now.mesh.areas[cell];
            case 2: return 6 - now.mesh.sides[cell];
            case 3: return now.mesh.border(cell);
            case 4: return now.mesh.sidesAbout(cell);
            case 5: return now.mesh.unlikeAbout(cell);
            default: return Integer.MIN_VALUE;
        }
    }

    public int side(int cell, int i, int what) throws NoSuchElementException {
        if (!now.mesh.hasCell(cell)) {
            throw new NoSuchElementException("no such cell");
        }
        int half = now.mesh.halfAt(cell, i);
        if (half < 0) {
            return NONE;
        }
        switch (what) {
            case 0: return half / 2;
            case 1: return now.mesh.across(half);
            case 2: return now.mesh.endOf(half);
            default: return NONE;
        }
    }

    public int wall(int wall, int what) {
        if (!now.mesh.hasWall(wall)) {
            return NONE;
        }
        Mesh mesh = now.mesh;
        int a = mesh.owner[2 * wall];
        int b = mesh.owner[2 * wall + 1];
        int c = mesh.endOf(2 * wall);
        int d = mesh.endOf(2 * wall + 1);
        switch (what) {
            case 0: return Math.min(a, b);
            case 1: return Math.max(a, b);
            case 2: return Math.min(c, d);
            case 3: return Math.max(c, d);
            case 4: return mesh.lengths[wall];
            case 5: return mesh.canFlip(wall) ? 1 : 0;
            case 6: return mesh.canFlip(wall) ? 1000 + mesh.easing(wall) : NONE;
            default: return NONE;
        }
    }

    public int between(int cell, int other, int what) {
        if (!areTwo(cell, other)) {
            return NONE;
        }
        switch (what) {
            case 0: return now.mesh.wallsBetween(cell, other);
            case 1: return now.mesh.leastBetween(cell, other);
            default: return NONE;
        }
    }

    // ---- who is how far ----

    public int far(int cell, int other) {
        if (!now.mesh.hasCell(cell) || !now.mesh.hasCell(other)) {
            return NONE;
        }
        ways.spread(now.mesh, cell);
        return ways.distance[other];
    }

    public int shell(int cell, int d) {
        if (!now.mesh.hasCell(cell) || d < 0) {
            return NONE;
        }
        ways.spread(now.mesh, cell);
        return ways.howManyAt(d);
    }

    public int shellOf(int cell, int d, int i) {
        if (!now.mesh.hasCell(cell) || d < 0 || i < 0) {
            return NONE;
        }
        ways.spread(now.mesh, cell);
        return ways.whichAt(d, i);
    }

    public int way(int cell, int other, int i) {
        if (!now.mesh.hasCell(cell) || !now.mesh.hasCell(other) || i < 0) {
            return NONE;
        }
        ways.spread(now.mesh, other);
        return ways.comeNearer(now.mesh, cell, i);
    }

    public int mutual(int cell, int other) {
        if (!areTwo(cell, other)) {
            return NONE;
        }
        int many = 0;
        for (int c = 0; c < CELLS; c++) {
            if (now.mesh.wallsBetween(c, cell) > 0 && now.mesh.wallsBetween(c, other) > 0) {
                many++;
            }
        }
        return many;
    }

    // ---- CELLS of a kind ----

    public int about(int n, int what) {
        int lower = now.mesh.howMany(n) * n;
        if (lower <= 0) {
            return NONE;
        }
        int upper = now.mesh.sidesAboutAll(n);
        int common = commonDivisor(upper, lower);
        if (common <= 0) {
            return NONE;
        }
        switch (what) {
            case 0: return upper / common;
            case 1: return lower / common;
            default: return NONE;
        }
    }

    public int kind(int n, int what) {
        switch (what) {
            case 0: return now.mesh.howMany(n);
            case 1: return now.mesh.areaOfAll(n);
            case 2: return now.mesh.sidesAboutAll(n);
            default: return Integer.MIN_VALUE;
        }
    }

    public int pairs(int n, int m) {
        Mesh mesh = now.mesh;
        int many = 0;
        for (int w = 0; w < WALLS; w++) {
            if (mesh.hasWall(w)) {
                int a = mesh.sides[mesh.owner[2 * w]];
                int b = mesh.sides[mesh.owner[2 * w + 1]];
                if (a == n && b == m || a == m && b == n) {
                    many++;
                }
            }
        }
        return many;
    }

    public int ranked(int i) {
        for (int c = 0; c < CELLS; c++) {
            if (now.mesh.hasCell(c) && now.mesh.rankOf(c) == i) {
                return c;
            }
        }
        return NONE;
    }

    // ---- ROUNDS ----

    public int around(int cell, int x, int y) {
        if (!now.mesh.hasCell(cell) || x < -1 || x > 1 || y < -1 || y > 1) {
            return NONE;
        }
        ways.spreadRound(now.mesh, cell, 0);
        return ways.depth[Ways.spot(cell, x, y)];
    }

    public int rounds(int wall, int what) {
        if (!now.mesh.hasWall(wall)) {
            return Integer.MIN_VALUE;
        }
        Mesh mesh = now.mesh;
        int half = mesh.owner[2 * wall] < mesh.owner[2 * wall + 1] ? 2 * wall : 2 * wall + 1;
        switch (what) {
            case 0: return mesh.roundX[half];
            case 1: return mesh.roundY[half];
            default: return Integer.MIN_VALUE;
        }
    }

    public int spans(int cell, int n, int what) {
        if (!now.mesh.hasCell(cell) || what < 0 || what > 1) {
            return NONE;
        }
        if (now.mesh.sides[cell] < n) {
            return 0;
        }
        ways.spreadRound(now.mesh, cell, n);
        for (int k = -BEYOND; k <= BEYOND; k++) {
            int spot = what == 0 ? Ways.spot(cell, 1, k) : Ways.spot(cell, k, 1);
            if (ways.depth[spot] >= 0) {
                return 1;
            }
        }
        return 0;
    }

    public int pieces(int n, int what) {
        if (n < 0 || what < 0 || what > 2) {
            return NONE;
        }
        ways.gatherPieces(now.mesh, n);
        switch (what) {
            case 0: return ways.pieceCount;
            case 1: return ways.largestSize;
            default: return ways.largestLeast;
        }
    }

    // ---- all together ----

    public int all(int what) {
        Mesh mesh = now.mesh;
        switch (what) {
            case 0: return mesh.strain();
            case 1: return mesh.turns();
            case 2: return mesh.sumOfAreas();
            case 3: return mesh.greatestArea();
            case 4: return mesh.leastArea();
            case 5: return mesh.sumOfLengths();
            case 6: return mesh.easiestWall() < 0 ? 1 : 0;
            case 7: return mesh.flippable();
            case 8: return mesh.mostSides();
            case 9: return mesh.fewestSides();
            default: return Integer.MIN_VALUE;
        }
    }

    public int easiest() {
        return now.mesh.easiestWall();
    }

    // ---- on paper ----

    public int lowest(int n) {
        return n < 0 || n > 2 ? NONE : paper.leastStrain(now, n);
    }

    public int reach(int cell, int n, int what) {
        if (!now.mesh.hasCell(cell) || what < 0 || what > 1) {
            return NONE;
        }
        if (now.mesh.sides[cell] == n) {
            return what == 0 ? 0 : NONE;
        }
        int wall = paper.oneSwapTo(now, cell, n);
        if (wall >= 0) {
            return what == 0 ? 1 : wall;
        }
        wall = paper.twoSwapsTo(now, cell, n);
        if (wall >= 0) {
            return what == 0 ? 2 : wall;
        }
        return NONE;
    }

    public int alike() {
        return paper.stepsToAlike(now);
    }

    public int until(int n) {
        return paper.stepsToFew(now, n);
    }

    public int rested(int seed, int many, int n, int h, int what) {
        if (!isShake(seed, n, h) || many < 1 || many > 10 || what < 0 || what > 1) {
            return NONE;
        }
        if (seed > MOST_SEED - (many - 1)) {
            return NONE;
        }
        int best = paper.bestSeed(now, seed, many, n, h);
        return what == 0 ? paper.bestStrain : best;
    }

    public int resting(int what) {
        if (what < 0 || what > 1) {
            return NONE;
        }
        int swapped = paper.swapsToRest(now);
        return what == 0 ? swapped : paper.foam.mesh.strain();
    }

    public int later(int n, int what) {
        if (n < 0 || n > MOST_STEPS || what < 0 || what > 4) {
            return Integer.MIN_VALUE;
        }
        paper.goOnFrom(now, n);
        switch (what) {
            case 0: return paper.foam.mesh.howManyCells();
            case 1: return paper.foam.mesh.strain();
            case 2: return paper.foam.swaps - now.swaps;
            case 3: return paper.foam.vanished - now.vanished;
            default: return paper.foam.mesh.leastArea();
        }
    }

    public int gone(int cell) {
        return now.mesh.hasCell(cell) ? paper.stepsToGone(now, cell) : NONE;
    }

    public int first(int what) {
        return what < 0 || what > 1 ? NONE : paper.stepsToFirst(now, what);
    }

    // ---- what has been ----

    public int log(int i, int what) {
        return now.diary.read(i, what);
    }

    public int count(int what) {
        switch (what) {
            case 0: return now.mesh.howManyCells();
            case 1: return now.mesh.howManyWalls();
            case 2: return now.mesh.howManyWalls() / 3 * 2;
            case 3: return now.stepped;
            case 4: return now.swaps;
            case 5: return now.vanished;
            case 6: return now.cuts;
            case 7: return now.width;
            case 8: return now.height;
            case 9: return now.pace;
            case 10: return now.diary.size;
            case 11: return now.refused[0];
            case 12: return now.refused[1];
            case 13: return now.refused[2];
            case 14: return now.refused[3];
            case 15: return now.bursts;
            default: return NONE;
        }
    }

    private boolean areTwo(int cell, int other) {
        return cell != other && now.mesh.hasCell(cell) && now.mesh.hasCell(other);
    }

    private static boolean isShake(int seed, int n, int h) {
        return seed >= 0 && seed <= MOST_SEED && n >= 1 && n <= 99 && h >= 0 && h <= 99;
    }

    private static int commonDivisor(int a, int b) {
        int great = a;
        int small = b;
        for (int k = 0; k < 100 && small > 0; k++) {
            int rest = great % small;
            great = small;
            small = rest;
        }
        return great;
    }

    /**
     * CELLS and WALLS as they lie. Each WALL w has two halves, 2 w and 2 w + 1, one in each of its CELLS (half ^ 1
     * is the other one); the halves of a CELL are linked the way round. No WALL ever has one CELL on both sides,
     * and no CELL fewer than 3 SIDES: what could make such ones can't be done.
     */
    private static final class Mesh {
        final int[] owner = new int[HALVES];
        final int[] next = new int[HALVES];
        final int[] prev = new int[HALVES];
        final int[] roundX = new int[HALVES];
        final int[] roundY = new int[HALVES];
        final int[] lengths = new int[WALLS];
        final int[] sides = new int[CELLS];
        final int[] areas = new int[CELLS];

        void copyOf(Mesh other) {
            System.arraycopy(other.owner, 0, owner, 0, HALVES);
            System.arraycopy(other.next, 0, next, 0, HALVES);
            System.arraycopy(other.prev, 0, prev, 0, HALVES);
            System.arraycopy(other.roundX, 0, roundX, 0, HALVES);
            System.arraycopy(other.roundY, 0, roundY, 0, HALVES);
            System.arraycopy(other.lengths, 0, lengths, 0, WALLS);
            System.arraycopy(other.sides, 0, sides, 0, CELLS);
            System.arraycopy(other.areas, 0, areas, 0, CELLS);
        }

        /** w and h are 3 .. 6. */
        void layRing(int w, int h) {
            for (int half = 0; half < HALVES; half++) {
                owner[half] = NONE;
            }
            for (int c = 0; c < CELLS; c++) {
                sides[c] = 0;
                areas[c] = 0;
            }
            for (int y = 0; y < h; y++) {
                for (int x = 0; x < w; x++) {
                    layCell(x, y, w, h);
                }
            }
        }

        private void layCell(int x, int y, int w, int h) {
            int c = x + w * y;
            sides[c] = 6;
            areas[c] = FIRST_AREA;
            int before = halfOnRing(x, y, 5, w, h);
            for (int i = 0; i < 6; i++) {
                int half = halfOnRing(x, y, i, w, h);
                owner[half] = c;
                link(before, half);
                before = half;
                if (i < 3) {
                    setRound(half, over(x + TO_X[i], w), over(y + TO_Y[i], h));
                    lengths[half / 2] = FIRST_LENGTH;
                }
            }
        }

        private static int halfOnRing(int x, int y, int i, int w, int h) {
            if (i < 3) {
                return 2 * (3 * (x + w * y) + i);
            }
            int nx = Math.floorMod(x + TO_X[i], w);
            int ny = Math.floorMod(y + TO_Y[i], h);
            return 2 * (3 * (nx + w * ny) + i - 3) + 1;
        }

        private static int over(int at, int size) {
            return at >= size ? 1 : at < 0 ? -1 : 0;
        }

        private void link(int half, int behind) {
            next[half] = behind;
            prev[behind] = half;
        }

        private void unlink(int half) {
            next[prev[half]] = next[half];
            prev[next[half]] = prev[half];
        }

        private void setRound(int half, int x, int y) {
            roundX[half] = x;
            roundY[half] = y;
            roundX[half ^ 1] = -x;
            roundY[half ^ 1] = -y;
        }

        boolean hasCell(int cell) {
            return cell >= 0 && cell < CELLS && sides[cell] > 0;
        }

        boolean hasWall(int wall) {
            return wall >= 0 && wall < WALLS && owner[2 * wall] >= 0;
        }

        int across(int half) {
            return owner[half ^ 1];
        }

        /** The CELL at the MEETING where a half ends, the way round. */
        int endOf(int half) {
            return owner[next[half] ^ 1];
        }

        /** The half of a CELL whose WALL has the least number: its SIDES are told from there on. */
        int firstHalf(int cell) {
            for (int half = 0; half < HALVES; half++) {
                if (owner[half] == cell) {
                    return half;
                }
            }
            return NONE;
        }

        /** The i-th SIDE of a CELL that is there; NONE: it has not so many. */
        int halfAt(int cell, int i) {
            if (i < 0 || i >= sides[cell]) {
                return NONE;
            }
            int half = firstHalf(cell);
            for (int k = 0; k < i && half >= 0; k++) {
                half = next[half];
            }
            return half;
        }

        // ---- SWAP ----

        boolean canFlip(int wall) {
            int a = owner[2 * wall];
            int b = owner[2 * wall + 1];
            return sides[a] > 3 && sides[b] > 3 && areFour(a, b, endOf(2 * wall), endOf(2 * wall + 1));
        }

        private static boolean areFour(int a, int b, int c, int d) {
            return a != b && a != c && a != d && b != c && b != d && c != d;
        }

        /** Four squares, each one's number of SIDES changing by one, come to this. */
        int easing(int wall) {
            int inside = sides[owner[2 * wall]] + sides[owner[2 * wall + 1]];
            int outside = sides[endOf(2 * wall)] + sides[endOf(2 * wall + 1)];
            return 2 * (inside - outside) - 4;
        }

        void flip(int wall) {
            int a = 2 * wall;
            int b = a + 1;
            int intoC = next[a] ^ 1;
            int outOfC = prev[b] ^ 1;
            int intoD = next[b] ^ 1;
            int outOfD = prev[a] ^ 1;
            int x = roundX[intoC] + roundX[prev[a]];
            int y = roundY[intoC] + roundY[prev[a]];
            unlink(a);
            unlink(b);
            sides[owner[a]]--;
            sides[owner[b]]--;
            insert(a, intoC, outOfC);
            insert(b, intoD, outOfD);
            setRound(a, x, y);
            lengths[wall] = FIRST_LENGTH;
        }

        private void insert(int half, int ahead, int behind) {
            next[ahead] = half;
            prev[half] = ahead;
            next[half] = behind;
            prev[behind] = half;
            owner[half] = owner[ahead];
            sides[owner[half]]++;
        }

        /** The WALL that can be SWAPPED of the greatest EASING above 0; NONE: it is at REST. */
        int easiestWall() {
            int best = NONE;
            int most = 0;
            for (int w = 0; w < WALLS; w++) {
                if (hasWall(w)) {
                    int easing = easing(w);
                    if (easing > most && canFlip(w)) {
                        most = easing;
                        best = w;
                    }
                }
            }
            return best;
        }

        int flippable() {
            int many = 0;
            for (int w = 0; w < WALLS; w++) {
                if (hasWall(w) && canFlip(w)) {
                    many++;
                }
            }
            return many;
        }

        /** Of the SIDES of a CELL that can be SWAPPED the shortest; NONE: none can. */
        int shortestSide(int cell) {
            int best = NONE;
            for (int w = 0; w < WALLS; w++) {
                boolean isSide = hasWall(w) && (owner[2 * w] == cell || owner[2 * w + 1] == cell);
                if (isSide && canFlip(w) && (best < 0 || lengths[w] < lengths[best])) {
                    best = w;
                }
            }
            return best;
        }

        // ---- VANISH ----

        boolean canShrink(int cell) {
            int first = firstHalf(cell);
            if (sides[cell] != 3 || first < 0) {
                return false;
            }
            int p = across(first);
            int q = across(next[first]);
            int r = across(prev[first]);
            return p != q && q != r && r != p && sides[p] > 3 && sides[q] > 3 && sides[r] > 3;
        }

        /** A CELL that can, goes: the neighbour that has its AREA then. */
        int shrink(int cell) {
            int heir = NONE;
            for (int w = 0; w < WALLS; w++) {
                if (hasWall(w) && (owner[2 * w] == cell || owner[2 * w + 1] == cell)) {
                    int outer = owner[2 * w] == cell ? 2 * w + 1 : 2 * w;
                    int other = owner[outer];
                    heir = greater(heir, other);
                    unlink(outer);
                    sides[other]--;
                    dropWall(w);
                }
            }
            if (heir >= 0) {
                areas[heir] += areas[cell];
            }
            dropCell(cell);
            return heir;
        }

        private int greater(int one, int other) {
            if (one < 0 || areas[other] > areas[one]) {
                return other;
            }
            return areas[other] == areas[one] ? Math.min(one, other) : one;
        }

        private void dropWall(int wall) {
            owner[2 * wall] = NONE;
            owner[2 * wall + 1] = NONE;
            lengths[wall] = 0;
        }

        private void dropCell(int cell) {
            sides[cell] = 0;
            areas[cell] = 0;
        }

        // ---- CUT ----

        /** From the middle of one half of a CELL to that of another one: the new CELL; NONE: no room. */
        int split(int cell, int from, int to) {
            int fresh = freeCell();
            if (fresh < 0 || howManyWalls() > WALLS - 3) {
                return NONE;
            }
            int begin = next[from];
            int end = prev[to];
            int moved = handOver(fresh, begin, to, sides[cell]);
            int head = halve(from, fresh);
            int tail = halve(to, fresh);
            link(prev[from ^ 1], head ^ 1);
            link(head ^ 1, from ^ 1);
            link(tail ^ 1, next[to ^ 1]);
            link(to ^ 1, tail ^ 1);
            int middle = addWall(cell, fresh, FIRST_LENGTH);
            setRound(middle, 0, 0);
            link(from, middle);
            link(middle, to);
            link(tail, middle ^ 1);
            link(middle ^ 1, head);
            if (moved == 0) {
                link(head, tail);
            } else {
                link(head, begin);
                link(end, tail);
            }
            sides[cell] += 1 - moved;
            sides[fresh] = 3 + moved;
            areas[fresh] = Math.floorDiv(areas[cell], 2);
            areas[cell] -= areas[fresh];
            return fresh;
        }

        /** The halves from one up to ahead of another one are a CELL's now: how many. */
        private int handOver(int cell, int begin, int stop, int most) {
            int half = begin;
            int moved = 0;
            for (int k = 0; k < most && half != stop; k++) {
                owner[half] = cell;
                moved++;
                half = next[half];
            }
            return moved;
        }

        /** The part of a half's WALL that a new CELL takes: the new half in that CELL. */
        private int halve(int half, int fresh) {
            int taken = lengths[half / 2] / 2;
            int part = addWall(fresh, across(half), taken);
            lengths[half / 2] -= taken;
            setRound(part, roundX[half], roundY[half]);
            sides[across(half)]++;
            return part;
        }

        /** A WALL of the least number that is free, of which split has seen that there is one: its half in one. */
        private int addWall(int one, int other, int length) {
            int wall = 0;
            while (wall < WALLS - 1 && hasWall(wall)) {
                wall++;
            }
            owner[2 * wall] = one;
            owner[2 * wall + 1] = other;
            lengths[wall] = length;
            return 2 * wall;
        }

        private int freeCell() {
            for (int c = 0; c < CELLS; c++) {
                if (sides[c] == 0) {
                    return c;
                }
            }
            return NONE;
        }

        // ---- BURST ----

        boolean canJoin(int wall) {
            int a = owner[2 * wall];
            int b = owner[2 * wall + 1];
            int c = endOf(2 * wall);
            int d = endOf(2 * wall + 1);
            return areFour(a, b, c, d) && wallsBetween(a, b) == 1 && sides[c] > 3 && sides[d] > 3
                && sides[a] + sides[b] > 6;
        }

        /** A WALL that can, goes: the CELL that is left. */
        int join(int wall) {
            int a = owner[2 * wall] < owner[2 * wall + 1] ? 2 * wall : 2 * wall + 1;
            int b = a ^ 1;
            int left = owner[a];
            int lost = owner[b];
            int x = roundX[a];
            int y = roundY[a];
            int half = next[b];
            for (int k = 1; k < sides[lost]; k++) {
                setRound(half, roundX[half] + x, roundY[half] + y);
                owner[half] = left;
                half = next[half];
            }
            int beforeA = prev[a];
            int afterA = next[a];
            int beforeB = prev[b];
            int afterB = next[b];
            link(beforeA, afterB);
            link(beforeB, afterA);
            sides[left] += sides[lost] - 2;
            areas[left] += areas[lost];
            dropWall(wall);
            dropCell(lost);
            makeOne(beforeA, afterB);
            makeOne(beforeB, afterA);
            return left;
        }

        /** Two halves of one CELL, one behind the other, whose MEETING is no more. */
        private void makeOne(int half, int behind) {
            int stays = half < behind ? half : behind;
            int goes = half < behind ? behind : half;
            int both = lengths[half / 2] + lengths[behind / 2];
            lengths[stays / 2] = Math.min(both, MOST_LENGTH);
            sides[owner[goes]]--;
            sides[across(goes)]--;
            unlink(goes);
            unlink(goes ^ 1);
            dropWall(goes / 2);
        }

        // ---- what lies about ----

        int wallsBetween(int cell, int other) {
            int many = 0;
            for (int w = 0; w < WALLS; w++) {
                if (liesBetween(w, cell, other)) {
                    many++;
                }
            }
            return many;
        }

        int leastBetween(int cell, int other) {
            for (int w = 0; w < WALLS; w++) {
                if (liesBetween(w, cell, other)) {
                    return w;
                }
            }
            return NONE;
        }

        private boolean liesBetween(int wall, int cell, int other) {
            int a = owner[2 * wall];
            int b = owner[2 * wall + 1];
            return a >= 0 && (a == cell && b == other || a == other && b == cell);
        }

        int border(int cell) {
            int sum = 0;
            for (int half = 0; half < HALVES; half++) {
                if (owner[half] == cell) {
                    sum += lengths[half / 2];
                }
            }
            return sum;
        }

        int sidesAbout(int cell) {
            int sum = 0;
            for (int half = 0; half < HALVES; half++) {
                if (owner[half] == cell) {
                    sum += sides[across(half)];
                }
            }
            return sum;
        }

        int unlikeAbout(int cell) {
            int many = 0;
            for (int c = 0; c < CELLS; c++) {
                if (leastBetween(cell, c) >= 0) {
                    many++;
                }
            }
            return many;
        }

        // ---- CELLS of n SIDES ----

        int howMany(int n) {
            int many = 0;
            for (int c = 0; c < CELLS; c++) {
                if (hasCell(c) && sides[c] == n) {
                    many++;
                }
            }
            return many;
        }

        int areaOfAll(int n) {
            int sum = 0;
            for (int c = 0; c < CELLS; c++) {
                if (hasCell(c) && sides[c] == n) {
                    sum += areas[c];
                }
            }
            return sum;
        }

        int sidesAboutAll(int n) {
            int sum = 0;
            for (int half = 0; half < HALVES; half++) {
                if (owner[half] >= 0 && sides[owner[half]] == n) {
                    sum += sides[across(half)];
                }
            }
            return sum;
        }

        /** How many CELLS are ahead of one by AREA, then by number. */
        int rankOf(int cell) {
            int ahead = 0;
            for (int c = 0; c < CELLS; c++) {
                if (hasCell(c) && (areas[c] < areas[cell] || areas[c] == areas[cell] && c < cell)) {
                    ahead++;
                }
            }
            return ahead;
        }

        // ---- all together ----

        int howManyCells() {
            int many = 0;
            for (int c = 0; c < CELLS; c++) {
                if (hasCell(c)) {
                    many++;
                }
            }
            return many;
        }

        int howManyWalls() {
            int many = 0;
            for (int w = 0; w < WALLS; w++) {
                if (hasWall(w)) {
                    many++;
                }
            }
            return many;
        }

        int strain() {
            int sum = 0;
            for (int c = 0; c < CELLS; c++) {
                if (hasCell(c)) {
                    sum += (6 - sides[c]) * (6 - sides[c]);
                }
            }
            return sum;
        }

        int turns() {
            int sum = 0;
            for (int c = 0; c < CELLS; c++) {
                if (hasCell(c)) {
                    sum += 6 - sides[c];
                }
            }
            return sum;
        }

        int sumOfAreas() {
            int sum = 0;
            for (int c = 0; c < CELLS; c++) {
                if (hasCell(c)) {
                    sum += areas[c];
                }
            }
            return sum;
        }

        int greatestArea() {
            int most = Integer.MIN_VALUE;
            for (int c = 0; c < CELLS; c++) {
                if (hasCell(c)) {
                    most = Math.max(most, areas[c]);
                }
            }
            return most;
        }

        int leastArea() {
            int least = Integer.MAX_VALUE;
            for (int c = 0; c < CELLS; c++) {
                if (hasCell(c)) {
                    least = Math.min(least, areas[c]);
                }
            }
            return least;
        }

        int sumOfLengths() {
            int sum = 0;
            for (int w = 0; w < WALLS; w++) {
                if (hasWall(w)) {
                    sum += lengths[w];
                }
            }
            return sum;
        }

        int mostSides() {
            int most = 0;
            for (int c = 0; c < CELLS; c++) {
                most = Math.max(most, sides[c]);
            }
            return most;
        }

        int fewestSides() {
            int fewest = HALVES;
            for (int c = 0; c < CELLS; c++) {
                if (hasCell(c)) {
                    fewest = Math.min(fewest, sides[c]);
                }
            }
            return fewest;
        }

        boolean hasSidesOf(Mesh other) {
            for (int c = 0; c < CELLS; c++) {
                if (sides[c] != other.sides[c]) {
                    return false;
                }
            }
            return true;
        }

        // ---- a STEP's even part ----

        void growAreas(int pace) {
            for (int c = 0; c < CELLS; c++) {
                if (hasCell(c)) {
                    areas[c] += pace * (sides[c] - 6);
                }
            }
        }

        void stretchWalls() {
            for (int w = 0; w < WALLS; w++) {
                if (hasWall(w)) {
                    int outside = sides[endOf(2 * w)] + sides[endOf(2 * w + 1)];
                    int inside = sides[owner[2 * w]] + sides[owner[2 * w + 1]];
                    int length = lengths[w] + outside - inside;
                    lengths[w] = Math.max(0, Math.min(length, MOST_LENGTH));
                }
            }
        }
    }

    /** The LOG: a row that is written over from its beginning when it is full. */
    private static final class Diary {
        final int[] whats = new int[LOG_ROOM];
        final int[] whens = new int[LOG_ROOM];
        final int[] numbers = new int[LOG_ROOM];
        int size;
        int latest;

        void clear() {
            size = 0;
            latest = 0;
        }

        void copyOf(Diary other) {
            System.arraycopy(other.whats, 0, whats, 0, LOG_ROOM);
            System.arraycopy(other.whens, 0, whens, 0, LOG_ROOM);
            System.arraycopy(other.numbers, 0, numbers, 0, LOG_ROOM);
            size = other.size;
            latest = other.latest;
        }

        void write(int what, int when, int number) {
            latest = (latest + 1) % LOG_ROOM;
            whats[latest] = what;
            whens[latest] = when;
            numbers[latest] = number;
            if (size < LOG_ROOM) {
                size++;
            }
        }

        int read(int i, int what) {
            if (i < 0 || i >= size) {
                return NONE;
            }
            int place = Math.floorMod(latest - i, LOG_ROOM);
            switch (what) {
                case 0: return whats[place];
                case 1: return whens[place];
                case 2: return numbers[place];
                default: return NONE;
            }
        }
    }

    /** A foam with all that is counted, logged and kept of it. */
    private static final class Foam {
        final Mesh mesh = new Mesh();
        final Diary diary = new Diary();
        final int[] refused = new int[4];
        int width;
        int height;
        int pace = 1;
        int stepped;
        int swaps;
        int vanished;
        int cuts;
        int bursts;

        void begin(int w, int h) {
            width = w;
            height = h;
            stepped = 0;
            swaps = 0;
            vanished = 0;
            cuts = 0;
            bursts = 0;
            diary.clear();
            mesh.layRing(w, h);
        }

        void copyOf(Foam other) {
            mesh.copyOf(other.mesh);
            diary.copyOf(other.diary);
            System.arraycopy(other.refused, 0, refused, 0, 4);
            width = other.width;
            height = other.height;
            pace = other.pace;
            stepped = other.stepped;
            swaps = other.swaps;
            vanished = other.vanished;
            cuts = other.cuts;
            bursts = other.bursts;
        }

        int refuse(int why) {
            if (why >= NO_ROOM && why <= WRONG_NUMBER) {
                refused[WRONG_NUMBER - why]++;
            }
            return why;
        }

        void flipWall(int wall) {
            mesh.flip(wall);
            swaps++;
            diary.write(SWAPPED, stepped, wall);
        }

        int shrinkCell(int cell) {
            int heir = mesh.shrink(cell);
            vanished++;
            diary.write(VANISHED, stepped, cell);
            return heir;
        }

        int splitCell(int cell, int from, int to) {
            int fresh = mesh.split(cell, from, to);
            if (fresh >= 0) {
                cuts++;
                diary.write(CUT, stepped, cell);
            }
            return fresh;
        }

        int joinAcross(int wall) {
            int left = mesh.join(wall);
            bursts++;
            diary.write(BURST, stepped, wall);
            return left;
        }

        /** One STEP. */
        void goOn() {
            stepped++;
            mesh.growAreas(pace);
            mesh.stretchWalls();
            for (int w = 0; w < WALLS; w++) {
                if (mesh.hasWall(w) && mesh.lengths[w] == 0 && mesh.canFlip(w)) {
                    flipWall(w);
                }
            }
            for (int c = 0; c < CELLS; c++) {
                if (mesh.hasCell(c) && mesh.areas[c] <= 0) {
                    giveWay(c);
                }
            }
        }

        private void giveWay(int cell) {
            if (mesh.sides[cell] > 3) {
                int wall = mesh.shortestSide(cell);
                if (wall >= 0) {
                    flipWall(wall);
                }
            } else if (mesh.canShrink(cell)) {
                shrinkCell(cell);
            }
        }

        /** RELAXED: how many SWAPS. */
        int calm() {
            for (int k = 0; k < MANY; k++) {
                int wall = mesh.easiestWall();
                if (wall < 0) {
                    return k;
                }
                flipWall(wall);
            }
            return MANY;
        }

        /** SHAKEN: how many SWAPS. */
        int jolt(int seed, int n, int h) {
            int many = 0;
            int s = seed;
            for (int k = 0; k < n; k++) {
                s = (1103 * s + 12345) % 1000003;
                int wall = s % WALLS;
                if (mesh.hasWall(wall) && mesh.canFlip(wall) && mesh.easing(wall) >= -h) {
                    flipWall(wall);
                    many++;
                }
            }
            return many;
        }
    }

    /** WAYS from a CELL, each by the fewest WALLS. */
    private static final class Ways {
        final int[] distance = new int[CELLS];
        final int[] depth = new int[CELLS * LAYERS];
        final int[] queue = new int[CELLS * LAYERS];
        final int[] start = new int[CELLS];
        int queued;
        int pieceCount;
        int largestSize;
        int largestLeast;

        /** The place in depth of a CELL with so many ROUNDS, each -2 .. 2. */
        static int spot(int cell, int x, int y) {
            return cell * LAYERS + (x + BEYOND) * SPAN + y + BEYOND;
        }

        private void clearDistances(Mesh mesh) {
            for (int c = 0; c < CELLS; c++) {
                distance[c] = NONE;
                start[c] = mesh.hasCell(c) ? mesh.firstHalf(c) : NONE;
            }
        }

        /** How far all CELLS are from one. */
        void spread(Mesh mesh, int from) {
            clearDistances(mesh);
            spreadWithin(mesh, from, 0);
        }

        /** Through CELLS of so many SIDES alone: how many are come to. */
        private int spreadWithin(Mesh mesh, int from, int least) {
            distance[from] = 0;
            queue[0] = from;
            queued = 1;
            for (int k = 0; k < queued && k < CELLS; k++) {
                int cell = queue[k];
                int half = start[cell];
                for (int i = 0; i < mesh.sides[cell] && half >= 0; i++) {
                    int other = mesh.across(half);
                    if (distance[other] < 0 && mesh.sides[other] >= least && queued < CELLS) {
                        distance[other] = distance[cell] + 1;
                        queue[queued] = other;
                        queued++;
                    }
                    half = mesh.next[half];
                }
            }
            return queued;
        }

        int howManyAt(int d) {
            int many = 0;
            for (int c = 0; c < CELLS; c++) {
                if (distance[c] == d) {
                    many++;
                }
            }
            return many;
        }

        int whichAt(int d, int i) {
            int ahead = 0;
            for (int c = 0; c < CELLS; c++) {
                if (distance[c] == d) {
                    if (ahead == i) {
                        return c;
                    }
                    ahead++;
                }
            }
            return NONE;
        }

        /** Where i WALLS lead that come nearer to where the spread began, by the least CELLS. */
        int comeNearer(Mesh mesh, int from, int i) {
            if (i > distance[from]) {
                return NONE;
            }
            int cell = from;
            for (int k = 0; k < i; k++) {
                cell = leastNearer(mesh, cell);
            }
            return cell;
        }

        private int leastNearer(Mesh mesh, int cell) {
            int best = cell;
            int half = start[cell];
            for (int i = 0; i < mesh.sides[cell] && half >= 0; i++) {
                int other = mesh.across(half);
                if (distance[other] == distance[cell] - 1 && (best == cell || other < best)) {
                    best = other;
                }
                half = mesh.next[half];
            }
            return best;
        }

        void gatherPieces(Mesh mesh, int least) {
            clearDistances(mesh);
            pieceCount = 0;
            largestSize = 0;
            largestLeast = NONE;
            for (int c = 0; c < CELLS; c++) {
                if (mesh.hasCell(c) && mesh.sides[c] >= least && distance[c] < 0) {
                    int size = spreadWithin(mesh, c, least);
                    pieceCount++;
                    if (size > largestSize) {
                        largestSize = size;
                        largestLeast = c;
                    }
                }
            }
        }

        /** How far all CELLS are from one by each number of ROUNDS, through CELLS of so many SIDES alone. */
        void spreadRound(Mesh mesh, int from, int least) {
            clearDistances(mesh);
            for (int k = 0; k < CELLS * LAYERS; k++) {
                depth[k] = NONE;
            }
            queued = 0;
            put(spot(from, 0, 0), 0);
            for (int k = 0; k < queued && k < CELLS * LAYERS; k++) {
                goRound(mesh, queue[k], least);
            }
        }

        private void goRound(Mesh mesh, int spot, int least) {
            int cell = spot / LAYERS;
            int x = spot % LAYERS / SPAN - BEYOND;
            int y = spot % SPAN - BEYOND;
            int half = start[cell];
            for (int i = 0; i < mesh.sides[cell] && half >= 0; i++) {
                int other = mesh.across(half);
                int nx = x + mesh.roundX[half];
                int ny = y + mesh.roundY[half];
                if (isNear(nx) && isNear(ny) && mesh.sides[other] >= least) {
                    put(spot(other, nx, ny), depth[spot] + 1);
                }
                half = mesh.next[half];
            }
        }

        private static boolean isNear(int rounds) {
            return rounds >= -BEYOND && rounds <= BEYOND;
        }

        private void put(int spot, int far) {
            if (depth[spot] < 0 && queued < CELLS * LAYERS) {
                depth[spot] = far;
                queue[queued] = spot;
                queued++;
            }
        }
    }

    /** What would be: all is tried on a copy. */
    private static final class Paper {
        final Foam foam = new Foam();
        int bestStrain;

        int leastStrain(Foam now, int n) {
            foam.copyOf(now);
            Mesh mesh = foam.mesh;
            int strain = mesh.strain();
            if (n < 1) {
                return strain;
            }
            int eased = mostEased(mesh);
            for (int w = 0; w < WALLS && n > 1; w++) {
                if (mesh.hasWall(w) && mesh.canFlip(w)) {
                    int easing = mesh.easing(w);
                    mesh.flip(w);
                    eased = Math.max(eased, easing + mostEased(mesh));
                    mesh.flip(w);
                }
            }
            return strain - eased;
        }

        /** By one SWAP or none. */
        private static int mostEased(Mesh mesh) {
            int wall = mesh.easiestWall();
            return wall < 0 ? 0 : mesh.easing(wall);
        }

        int oneSwapTo(Foam now, int cell, int n) {
            return swapTo(now.mesh, cell, n);
        }

        /** The first of two WALLS; a WALL SWAPPED twice lies as it did, so one copy serves them all. */
        int twoSwapsTo(Foam now, int cell, int n) {
            foam.copyOf(now);
            Mesh mesh = foam.mesh;
            for (int w = 0; w < WALLS; w++) {
                if (mesh.hasWall(w) && mesh.canFlip(w)) {
                    mesh.flip(w);
                    if (swapTo(mesh, cell, n) >= 0) {
                        return w;
                    }
                    mesh.flip(w);
                }
            }
            return NONE;
        }

        /** The least WALL whose SWAP gives a CELL n SIDES. */
        private static int swapTo(Mesh mesh, int cell, int n) {
            for (int w = 0; w < WALLS; w++) {
                if (mesh.hasWall(w) && mesh.sides[cell] + gain(mesh, w, cell) == n && mesh.canFlip(w)) {
                    return w;
                }
            }
            return NONE;
        }

        private static int gain(Mesh mesh, int wall, int cell) {
            if (mesh.owner[2 * wall] == cell || mesh.owner[2 * wall + 1] == cell) {
                return -1;
            }
            return mesh.endOf(2 * wall) == cell || mesh.endOf(2 * wall + 1) == cell ? 1 : 0;
        }

        int stepsToAlike(Foam now) {
            foam.copyOf(now);
            for (int k = 1; k <= MOST_STEPS; k++) {
                foam.goOn();
                if (foam.mesh.hasSidesOf(now.mesh)) {
                    return k;
                }
            }
            return NONE;
        }

        int stepsToFew(Foam now, int n) {
            foam.copyOf(now);
            for (int k = 0; k <= MOST_UNTIL; k++) {
                if (foam.mesh.howManyCells() <= n) {
                    return k;
                }
                foam.goOn();
            }
            return NONE;
        }

        /** The first SEED of the least STRAIN, which is bestStrain then. */
        int bestSeed(Foam now, int seed, int many, int n, int h) {
            int best = NONE;
            for (int k = 0; k < many; k++) {
                foam.copyOf(now);
                foam.jolt(seed + k, n, h);
                foam.calm();
                int strain = foam.mesh.strain();
                if (best < 0 || strain < bestStrain) {
                    best = seed + k;
                    bestStrain = strain;
                }
            }
            return best;
        }

        int swapsToRest(Foam now) {
            foam.copyOf(now);
            return foam.calm();
        }

        void goOnFrom(Foam now, int n) {
            foam.copyOf(now);
            for (int k = 0; k < n; k++) {
                foam.goOn();
            }
        }

        int stepsToGone(Foam now, int cell) {
            foam.copyOf(now);
            for (int k = 1; k <= MOST_STEPS; k++) {
                foam.goOn();
                if (!foam.mesh.hasCell(cell)) {
                    return k;
                }
            }
            return NONE;
        }

        /** Until something is SWAPPED (0), VANISHES (1). */
        int stepsToFirst(Foam now, int what) {
            foam.copyOf(now);
            for (int k = 1; k <= MOST_STEPS; k++) {
                foam.goOn();
                boolean happened = what == 0 ? foam.swaps > now.swaps : foam.vanished > now.vanished;
                if (happened) {
                    return k;
                }
            }
            return NONE;
        }
    }
}
