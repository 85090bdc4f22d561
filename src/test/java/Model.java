import java.util.ArrayDeque;
import java.util.ArrayList;
import java.util.Arrays;
import java.util.Collections;
import java.util.HashMap;
import java.util.HashSet;
import java.util.List;
import java.util.Map;
import java.util.NoSuchElementException;
import java.util.Set;
import java.util.TreeMap;
import java.util.TreeSet;

/**
 * The document once more, in another form: rows of WALLS a CELL, everything else sought by trying. It shares no
 * code and no way of holding things with FoamCells, so that a slip in one shows against the other.
 */
final class Model {
    static final class Wall {
        int a;
        int b;
        int length;
        int x; // ROUNDS from a to b
        int y;

        Wall copy() {
            Wall w = new Wall();
            w.a = a;
            w.b = b;
            w.length = length;
            w.x = x;
            w.y = y;
            return w;
        }

        int other(int cell) {
            return cell == a ? b : a;
        }

        int x(int from) {
            return from == a ? x : -x;
        }

        int y(int from) {
            return from == a ? y : -y;
        }
    }

    TreeMap<Integer, List<Integer>> rows = new TreeMap<>();
    TreeMap<Integer, Integer> areas = new TreeMap<>();
    TreeMap<Integer, Wall> walls = new TreeMap<>();
    List<int[]> log = new ArrayList<>();
    int[] counts = new int[16];
    Model[] kept = new Model[2];

    Model() {
        counts[9] = 1;
        lay(4, 4);
    }

    private Model(boolean empty) {
    }

    Model copy() {
        Model m = new Model(true);
        m.take(this);
        return m;
    }

    void take(Model o) {
        rows = new TreeMap<>();
        for (Map.Entry<Integer, List<Integer>> e : o.rows.entrySet()) {
            rows.put(e.getKey(), new ArrayList<>(e.getValue()));
        }
        areas = new TreeMap<>(o.areas);
        walls = new TreeMap<>();
        for (Map.Entry<Integer, Wall> e : o.walls.entrySet()) {
            walls.put(e.getKey(), e.getValue().copy());
        }
        log = new ArrayList<>(o.log);
        counts = o.counts.clone();
    }

    void lay(int w, int h) {
        rows.clear();
        areas.clear();
        walls.clear();
        log.clear();
        for (int k : new int[] {3, 4, 5, 6, 15}) {
            counts[k] = 0;
        }
        counts[7] = w;
        counts[8] = h;
        int[][] way = {{1, 0}, {0, 1}, {-1, 1}, {-1, 0}, {0, -1}, {1, -1}};
        for (int y = 0; y < h; y++) {
            for (int x = 0; x < w; x++) {
                int c = x + w * y;
                areas.put(c, 100);
                List<Integer> row = new ArrayList<>();
                for (int i = 0; i < 6; i++) {
                    int nx = x + way[i][0];
                    int ny = y + way[i][1];
                    int d = (nx + w) % w + w * ((ny + h) % h);
                    if (i < 3) {
                        Wall wall = new Wall();
                        wall.a = c;
                        wall.b = d;
                        wall.length = 10;
                        wall.x = nx == w ? 1 : nx == -1 ? -1 : 0;
                        wall.y = ny == h ? 1 : ny == -1 ? -1 : 0;
                        walls.put(3 * c + i, wall);
                        row.add(3 * c + i);
                    } else {
                        row.add(3 * d + i - 3);
                    }
                }
                rows.put(c, row);
            }
        }
    }

    int refuse(int k) {
        counts[10 - k]++;
        return k;
    }

    List<Integer> row(int cell) {
        List<Integer> r = new ArrayList<>(rows.get(cell));
        Collections.rotate(r, -r.indexOf(Collections.min(r)));
        return r;
    }

    List<Integer> rowFrom(int cell, int wall) {
        List<Integer> r = new ArrayList<>(rows.get(cell));
        Collections.rotate(r, -r.indexOf(wall));
        return r;
    }

    int sides(int cell) {
        return rows.get(cell).size();
    }

    int behind(int cell, int wall) {
        return walls.get(rowFrom(cell, wall).get(1)).other(cell);
    }

    int ahead(int cell, int wall) {
        List<Integer> r = rowFrom(cell, wall);
        return walls.get(r.get(r.size() - 1)).other(cell);
    }

    int[] ends(int wall) {
        int a = walls.get(wall).a;
        return new int[] {Math.min(behind(a, wall), ahead(a, wall)), Math.max(behind(a, wall), ahead(a, wall))};
    }

    boolean four(int wall) {
        Wall w = walls.get(wall);
        Set<Integer> s = new HashSet<>(Arrays.asList(w.a, w.b, ends(wall)[0], ends(wall)[1]));
        return s.size() == 4;
    }

    boolean canSwap(int wall) {
        return walls.containsKey(wall) && four(wall) && sides(walls.get(wall).a) != 3 && sides(walls.get(wall).b) != 3;
    }

    int strain() {
        int s = 0;
        for (int c : rows.keySet()) {
            s += (6 - sides(c)) * (6 - sides(c));
        }
        return s;
    }

    int easing(int wall) {
        Model m = copy();
        m.doSwap(wall);
        return strain() - m.strain();
    }

    void note(int what, int number) {
        log.add(0, new int[] {what, counts[3], number});
        if (log.size() > 30) {
            log.remove(30);
        }
    }

    void doSwap(int wall) {
        Wall w = walls.get(wall);
        int a = w.a;
        List<Integer> ra = rowFrom(a, wall);
        List<Integer> rb = rowFrom(w.b, wall);
        int wallAC = ra.get(1);
        int wallAD = ra.get(ra.size() - 1);
        int wallBD = rb.get(1);
        int wallBC = rb.get(rb.size() - 1);
        int c = walls.get(wallAC).other(a);
        int d = walls.get(wallAD).other(a);
        if (walls.get(wallBD).other(w.b) != d || walls.get(wallBC).other(w.b) != c) {
            throw new IllegalStateException("a meeting of more than three");
        }
        rows.get(a).remove((Integer) wall);
        rows.get(w.b).remove((Integer) wall);
        squeezeIn(c, wall, wallAC, wallBC);
        squeezeIn(d, wall, wallAD, wallBD);
        int x = walls.get(wallAC).x(c) + walls.get(wallAD).x(a);
        int y = walls.get(wallAC).y(c) + walls.get(wallAD).y(a);
        w.a = c;
        w.b = d;
        w.x = x;
        w.y = y;
        w.length = 10;
    }

    void squeezeIn(int cell, int wall, int p, int q) {
        List<Integer> r = rows.get(cell);
        int n = r.size();
        int i = r.indexOf(p);
        int j = r.indexOf(q);
        if ((i + 1) % n == j) {
            r.add(i + 1, wall);
        } else if ((j + 1) % n == i) {
            r.add(j + 1, wall);
        } else {
            throw new IllegalStateException("not side by side");
        }
    }

    void loggedSwap(int wall) {
        doSwap(wall);
        counts[4]++;
        note(0, wall);
    }

    boolean canVanish(int cell) {
        if (sides(cell) != 3) {
            return false;
        }
        Set<Integer> s = new HashSet<>();
        for (int w : rows.get(cell)) {
            int o = walls.get(w).other(cell);
            s.add(o);
            if (sides(o) < 4) {
                return false;
            }
        }
        return s.size() == 3;
    }

    int doVanish(int cell) {
        TreeSet<Integer> s = new TreeSet<>();
        for (int w : rows.get(cell)) {
            int o = walls.get(w).other(cell);
            s.add(o);
            rows.get(o).remove((Integer) w);
            walls.remove(w);
        }
        int best = s.first();
        for (int o : s) {
            if (areas.get(o) > areas.get(best)) {
                best = o;
            }
        }
        areas.put(best, areas.get(best) + areas.get(cell));
        areas.remove(cell);
        rows.remove(cell);
        counts[5]++;
        note(1, cell);
        return best;
    }

    int freeWall() {
        int k = 0;
        while (walls.containsKey(k)) {
            k++;
        }
        return k;
    }

    int part(int wall, int cell, int fresh) {
        Wall w = walls.get(wall);
        Wall p = new Wall();
        p.a = fresh;
        p.b = w.other(cell);
        p.x = w.x(cell);
        p.y = w.y(cell);
        int up = w.length - w.length / 2;
        p.length = w.length - up;
        w.length = up;
        int k = freeWall();
        walls.put(k, p);
        return k;
    }

    int doCut(int cell, int i, int j) {
        List<Integer> r = row(cell);
        int wi = r.get(i);
        int wj = r.get(j);
        Collections.rotate(r, -i);
        int at = r.indexOf(wj);
        List<Integer> inner = new ArrayList<>(r.subList(1, at));
        List<Integer> outer = new ArrayList<>(r.subList(at, r.size()));
        outer.add(wi);
        int fresh = 0;
        while (rows.containsKey(fresh)) {
            fresh++;
        }
        int n = walls.get(wi).other(cell);
        int m = walls.get(wj).other(cell);
        int p = part(wi, cell, fresh);
        int q = part(wj, cell, fresh);
        int z = freeWall();
        Wall mid = new Wall();
        mid.a = cell;
        mid.b = fresh;
        mid.length = 10;
        walls.put(z, mid);
        for (int w : inner) {
            Wall wall = walls.get(w);
            if (wall.a == cell) {
                wall.a = fresh;
            } else {
                wall.b = fresh;
            }
        }
        // the neighbours go along these WALLS the other way
        rows.get(n).add(rows.get(n).indexOf(wi), p);
        rows.get(m).add(rows.get(m).indexOf(wj) + 1, q);
        inner.add(0, p);
        inner.add(q);
        inner.add(z);
        outer.add(z);
        rows.put(cell, outer);
        rows.put(fresh, inner);
        int half = (int) Math.floor(areas.get(cell) / 2.0);
        areas.put(fresh, half);
        areas.put(cell, areas.get(cell) - half);
        counts[6]++;
        note(2, cell);
        return fresh;
    }

    boolean canBurst(int wall) {
        Wall w = walls.get(wall);
        if (!four(wall) || sides(w.a) + sides(w.b) == 6) {
            return false;
        }
        for (int e : ends(wall)) {
            if (sides(e) == 3) {
                return false;
            }
        }
        return between(w.a, w.b).size() == 1;
    }

    List<Integer> between(int a, int b) {
        List<Integer> l = new ArrayList<>();
        for (Map.Entry<Integer, Wall> e : walls.entrySet()) {
            Wall w = e.getValue();
            if (w.a == a && w.b == b || w.a == b && w.b == a) {
                l.add(e.getKey());
            }
        }
        return l;
    }

    int doBurst(int wall) {
        Wall w = walls.get(wall);
        int low = Math.min(w.a, w.b);
        int high = Math.max(w.a, w.b);
        int x = w.x(low);
        int y = w.y(low);
        List<Integer> rl = rowFrom(low, wall);
        List<Integer> rh = rowFrom(high, wall);
        for (int k : rh) {
            Wall v = walls.get(k);
            if (k == wall) {
                continue;
            }
            if (v.a == high) {
                v.a = low;
                v.x += x;
                v.y += y;
            } else {
                v.b = low;
                v.x -= x;
                v.y -= y;
            }
        }
        rl.remove(0);
        rh.remove(0);
        int[][] joints = {{rl.get(rl.size() - 1), rh.get(0)}, {rh.get(rh.size() - 1), rl.get(0)}};
        List<Integer> all = new ArrayList<>(rl);
        all.addAll(rh);
        rows.put(low, all);
        rows.remove(high);
        areas.put(low, areas.get(low) + areas.remove(high));
        walls.remove(wall);
        for (int[] t : joints) {
            int stay = Math.min(t[0], t[1]);
            int go = Math.max(t[0], t[1]);
            Wall s = walls.get(stay);
            Wall g = walls.get(go);
            if (s.other(low) != g.other(low) || s.x(low) != g.x(low) || s.y(low) != g.y(low)) {
                throw new IllegalStateException("two that are one don't lie alike");
            }
            s.length = Math.min(99, s.length + g.length);
            rows.get(low).remove((Integer) go);
            rows.get(g.other(low)).remove((Integer) go);
            walls.remove(go);
        }
        counts[15]++;
        note(3, wall);
        return low;
    }

    void step() {
        counts[3]++;
        Model was = copy();
        for (int c : rows.keySet()) {
            areas.put(c, areas.get(c) + counts[9] * (was.sides(c) - 6));
        }
        for (int k : walls.keySet()) {
            Wall w = walls.get(k);
            int[] e = was.ends(k);
            int l = w.length + was.sides(e[0]) + was.sides(e[1]) - was.sides(w.a) - was.sides(w.b);
            w.length = l < 0 ? 0 : l > 99 ? 99 : l;
        }
        List<Integer> zero = new ArrayList<>();
        for (int k : walls.keySet()) {
            if (walls.get(k).length == 0) {
                zero.add(k);
            }
        }
        for (int k : zero) {
            if (canSwap(k)) {
                loggedSwap(k);
            }
        }
        for (int c = 0; c < 48; c++) {
            if (!rows.containsKey(c) || areas.get(c) > 0) {
                continue;
            }
            if (sides(c) == 3) {
                if (canVanish(c)) {
                    doVanish(c);
                }
                continue;
            }
            List<Integer> can = new ArrayList<>();
            for (int w : rows.get(c)) {
                if (canSwap(w)) {
                    can.add(w);
                }
            }
            can.sort((p, q) -> walls.get(p).length != walls.get(q).length
                ? walls.get(p).length - walls.get(q).length : p - q);
            if (!can.isEmpty()) {
                loggedSwap(can.get(0));
            }
        }
    }

    // ---- the face ----

    int ring(int w, int h) {
        if (w < 3 || w > 6 || h < 3 || h > 6) {
            return refuse(-1);
        }
        lay(w, h);
        return rows.size();
    }

    int rate(int r) {
        if (r < 0 || r > 9) {
            return refuse(-1);
        }
        int was = counts[9];
        counts[9] = r;
        return was;
    }

    int area(int c, int a) {
        if (a < -999 || a > 9999) {
            return refuse(-1);
        }
        return rows.containsKey(c) ? areas.put(c, a) : refuse(-2);
    }

    int length(int w, int l) {
        if (l < 0 || l > 99) {
            return refuse(-1);
        }
        if (!walls.containsKey(w)) {
            return refuse(-2);
        }
        int was = walls.get(w).length;
        walls.get(w).length = l;
        return was;
    }

    int swap(int w) {
        if (!walls.containsKey(w)) {
            return refuse(-2);
        }
        if (!canSwap(w)) {
            return refuse(-3);
        }
        int was = strain();
        loggedSwap(w);
        return was - strain() + 1000;
    }

    int vanish(int c) {
        return !rows.containsKey(c) ? refuse(-2) : !canVanish(c) ? refuse(-3) : doVanish(c);
    }

    int cut(int c, int i, int j) {
        if (!rows.containsKey(c)) {
            return refuse(-2);
        }
        if (i == j || i < 0 || j < 0 || i >= sides(c) || j >= sides(c)) {
            return refuse(-1);
        }
        return rows.size() == 48 ? refuse(-4) : doCut(c, i, j);
    }

    int burst(int w) {
        return !walls.containsKey(w) ? refuse(-2) : !canBurst(w) ? refuse(-3) : doBurst(w);
    }

    static boolean shakeable(int seed, int n, int h) {
        return seed >= 0 && seed < 1000000 && n > 0 && n < 100 && h >= 0 && h < 100;
    }

    int shake(int seed, int n, int h) {
        if (!shakeable(seed, n, h)) {
            return refuse(-1);
        }
        long s = seed;
        int many = 0;
        for (int k = 0; k < n; k++) {
            s = (1103 * s + 12345) % 1000003;
            int w = (int) (s % 144);
            if (canSwap(w) && easing(w) >= -h) {
                loggedSwap(w);
                many++;
            }
        }
        return many;
    }

    int steps(int n) {
        if (n < 1 || n > 50) {
            return refuse(-1);
        }
        int was = counts[4] + counts[5];
        for (int k = 0; k < n; k++) {
            step();
        }
        return counts[4] + counts[5] - was;
    }

    int relax() {
        int k = 0;
        while (easiest() >= 0) {
            loggedSwap(easiest());
            k++;
        }
        return k;
    }

    boolean keep(int k) {
        if (k != 0 && k != 1) {
            return false;
        }
        kept[k] = copy();
        return true;
    }

    boolean again(int k) {
        if (k != 0 && k != 1 || kept[k] == null) {
            return false;
        }
        take(kept[k]);
        return true;
    }

    int cell(int c, int what) {
        if (!rows.containsKey(c)) {
            throw new NoSuchElementException();
        }
        int lengths = 0;
        int about = 0;
        Set<Integer> unlike = new HashSet<>();
        for (int w : rows.get(c)) {
            lengths += walls.get(w).length;
            about += sides(walls.get(w).other(c));
            unlike.add(walls.get(w).other(c));
        }
        int[] all = {sides(c), areas.get(c), 6 - sides(c), lengths, about, unlike.size()};
        return what < 0 || what > 5 ? Integer.MIN_VALUE : all[what];
    }

    int side(int c, int i, int what) {
        if (!rows.containsKey(c)) {
            throw new NoSuchElementException();
        }
        if (i < 0 || i >= sides(c) || what < 0 || what > 2) {
            return -1;
        }
        int w = row(c).get(i);
        return what == 0 ? w : what == 1 ? walls.get(w).other(c) : behind(c, w);
    }

    int wall(int w, int what) {
        if (!walls.containsKey(w) || what < 0 || what > 6) {
            return -1;
        }
        Wall v = walls.get(w);
        switch (what) {
            case 0: return Math.min(v.a, v.b);
            case 1: return Math.max(v.a, v.b);
            case 2: return ends(w)[0];
            case 3: return ends(w)[1];
            case 4: return v.length;
            case 5: return canSwap(w) ? 1 : 0;
            default: return canSwap(w) ? 1000 + easing(w) : -1;
        }
    }

    int between(int a, int b, int what) {
        if (a == b || !rows.containsKey(a) || !rows.containsKey(b) || what < 0 || what > 1) {
            return -1;
        }
        List<Integer> l = between(a, b);
        return what == 0 ? l.size() : l.isEmpty() ? -1 : l.get(0);
    }

    Set<Integer> neighbours(int c) {
        Set<Integer> s = new TreeSet<>();
        for (int w : rows.get(c)) {
            s.add(walls.get(w).other(c));
        }
        return s;
    }

    Map<Integer, Integer> distances(int c) {
        Map<Integer, Integer> d = new HashMap<>();
        Set<Integer> edge = new TreeSet<>();
        edge.add(c);
        for (int k = 0; !edge.isEmpty(); k++) {
            Set<Integer> more = new TreeSet<>();
            for (int e : edge) {
                d.put(e, k);
            }
            for (int e : edge) {
                more.addAll(neighbours(e));
            }
            more.removeAll(d.keySet());
            edge = more;
        }
        return d;
    }

    int far(int a, int b) {
        return rows.containsKey(a) && rows.containsKey(b) ? distances(a).get(b) : -1;
    }

    List<Integer> shellRow(int c, int d) {
        List<Integer> l = new ArrayList<>();
        Map<Integer, Integer> m = distances(c);
        for (int k : rows.keySet()) {
            if (m.get(k) == d) {
                l.add(k);
            }
        }
        return l;
    }

    int shell(int c, int d) {
        return rows.containsKey(c) && d >= 0 ? shellRow(c, d).size() : -1;
    }

    int shellOf(int c, int d, int i) {
        if (!rows.containsKey(c) || i < 0) {
            return -1;
        }
        List<Integer> l = shellRow(c, d);
        return i < l.size() ? l.get(i) : -1;
    }

    int way(int a, int b, int i) {
        if (!rows.containsKey(a) || !rows.containsKey(b) || i < 0) {
            return -1;
        }
        // all shortest WAYS, forwards; the least of the rows
        List<List<Integer>> ways = new ArrayList<>();
        ways.add(new ArrayList<>(Arrays.asList(a)));
        while (true) {
            List<List<Integer>> there = new ArrayList<>();
            for (List<Integer> l : ways) {
                if (l.get(l.size() - 1) == b) {
                    there.add(l);
                }
            }
            if (!there.isEmpty()) {
                there.sort((p, q) -> {
                    for (int k = 0; k < p.size(); k++) {
                        if (!p.get(k).equals(q.get(k))) {
                            return p.get(k) - q.get(k);
                        }
                    }
                    return 0;
                });
                return i < there.get(0).size() ? there.get(0).get(i) : -1;
            }
            List<List<Integer>> longer = new ArrayList<>();
            Map<Integer, Integer> d = distances(a);
            for (List<Integer> l : ways) {
                for (int n : neighbours(l.get(l.size() - 1))) {
                    if (d.get(n) == l.size()) {
                        List<Integer> m = new ArrayList<>(l);
                        m.add(n);
                        longer.add(m);
                    }
                }
            }
            ways = longer;
        }
    }

    int mutual(int a, int b) {
        if (a == b || !rows.containsKey(a) || !rows.containsKey(b)) {
            return -1;
        }
        Set<Integer> s = neighbours(a);
        s.retainAll(neighbours(b));
        s.remove(a);
        s.remove(b);
        return s.size();
    }

    int about(int n, int what) {
        int up = 0;
        int low = 0;
        for (int c : rows.keySet()) {
            if (sides(c) == n) {
                for (int w : rows.get(c)) {
                    up += sides(walls.get(w).other(c));
                    low++;
                }
            }
        }
        if (low == 0 || what < 0 || what > 1) {
            return -1;
        }
        int g = low;
        while (up % g != 0 || low % g != 0) {
            g--;
        }
        return what == 0 ? up / g : low / g;
    }

    int kind(int n, int what) {
        int[] t = new int[3];
        for (int c : rows.keySet()) {
            if (sides(c) == n) {
                t[0]++;
                t[1] += areas.get(c);
                t[2] += cell(c, 4);
            }
        }
        return what < 0 || what > 2 ? Integer.MIN_VALUE : t[what];
    }

    int pairs(int n, int m) {
        int k = 0;
        for (Wall w : walls.values()) {
            int a = sides(w.a);
            int b = sides(w.b);
            if (Math.min(a, b) == Math.min(n, m) && Math.max(a, b) == Math.max(n, m)) {
                k++;
            }
        }
        return k;
    }

    int ranked(int i) {
        List<Integer> l = new ArrayList<>(rows.keySet());
        l.sort((p, q) -> areas.get(p).equals(areas.get(q)) ? p - q : areas.get(p) - areas.get(q));
        return i < 0 || i >= l.size() ? -1 : l.get(i);
    }

    /** All (CELL, x, y) that can be come to, each with the fewest WALLS. */
    Map<List<Integer>, Integer> around(int c, int least) {
        Map<List<Integer>, Integer> seen = new HashMap<>();
        ArrayDeque<List<Integer>> line = new ArrayDeque<>();
        seen.put(Arrays.asList(c, 0, 0), 0);
        line.add(Arrays.asList(c, 0, 0));
        while (!line.isEmpty()) {
            List<Integer> p = line.remove();
            for (int w : rows.get(p.get(0))) {
                Wall v = walls.get(w);
                int o = v.other(p.get(0));
                int x = p.get(1) + v.x(p.get(0));
                int y = p.get(2) + v.y(p.get(0));
                List<Integer> q = Arrays.asList(o, x, y);
                if (sides(o) >= least && Math.abs(x) <= 2 && Math.abs(y) <= 2 && !seen.containsKey(q)) {
                    seen.put(q, seen.get(p) + 1);
                    line.add(q);
                }
            }
        }
        return seen;
    }

    int around(int c, int x, int y) {
        if (!rows.containsKey(c) || Math.abs(x) > 1 || Math.abs(y) > 1) {
            return -1;
        }
        Integer n = around(c, 0).get(Arrays.asList(c, x, y));
        return n == null ? -1 : n;
    }

    int rounds(int w, int what) {
        if (!walls.containsKey(w) || what < 0 || what > 1) {
            return Integer.MIN_VALUE;
        }
        Wall v = walls.get(w);
        int low = Math.min(v.a, v.b);
        return what == 0 ? v.x(low) : v.y(low);
    }

    int spans(int c, int n, int what) {
        if (!rows.containsKey(c) || what < 0 || what > 1) {
            return -1;
        }
        if (sides(c) < n) {
            return 0;
        }
        for (List<Integer> p : around(c, n).keySet()) {
            if (p.get(0) == c && p.get(1 + what) == 1) {
                return 1;
            }
        }
        return 0;
    }

    int pieces(int n, int what) {
        if (n < 0 || what < 0 || what > 2) {
            return -1;
        }
        List<Set<Integer>> all = new ArrayList<>();
        for (int c : rows.keySet()) {
            if (sides(c) < n) {
                continue;
            }
            Set<Integer> mine = new TreeSet<>();
            mine.add(c);
            List<Set<Integer>> rest = new ArrayList<>();
            for (Set<Integer> s : all) {
                Set<Integer> touch = new TreeSet<>(s);
                touch.retainAll(neighbours(c));
                if (touch.isEmpty()) {
                    rest.add(s);
                } else {
                    mine.addAll(s);
                }
            }
            rest.add(mine);
            all = rest;
        }
        int size = 0;
        int least = -1;
        for (Set<Integer> s : all) {
            int low = Collections.min(s);
            if (s.size() > size || s.size() == size && low < least) {
                size = s.size();
                least = low;
            }
        }
        return what == 0 ? all.size() : what == 1 ? size : least;
    }

    int all(int what) {
        int turns = 0;
        int sum = 0;
        List<Integer> s = new ArrayList<>();
        for (int c : rows.keySet()) {
            turns += 6 - sides(c);
            sum += areas.get(c);
            s.add(sides(c));
        }
        int lengths = 0;
        int can = 0;
        for (int w : walls.keySet()) {
            lengths += walls.get(w).length;
            can += canSwap(w) ? 1 : 0;
        }
        switch (what) {
            case 0: return strain();
            case 1: return turns;
            case 2: return sum;
            case 3: return Collections.max(areas.values());
            case 4: return Collections.min(areas.values());
            case 5: return lengths;
            case 6: return easiest() < 0 ? 1 : 0;
            case 7: return can;
            case 8: return Collections.max(s);
            case 9: return Collections.min(s);
            default: return Integer.MIN_VALUE;
        }
    }

    int easiest() {
        int best = -1;
        int most = 0;
        for (int w : walls.keySet()) {
            if (canSwap(w)) {
                int e = easing(w);
                if (e > most) {
                    most = e;
                    best = w;
                }
            }
        }
        return best;
    }

    int lowest(int n) {
        if (n < 0 || n > 2) {
            return -1;
        }
        int best = strain();
        if (n > 0) {
            for (int w : walls.keySet()) {
                if (canSwap(w)) {
                    Model m = copy();
                    m.doSwap(w);
                    best = Math.min(best, m.lowest(n - 1));
                }
            }
        }
        return best;
    }

    /** The first WALL by which exactly so many SWAPS give a CELL n SIDES. */
    int firstBy(int c, int n, int swaps) {
        for (int w : walls.keySet()) {
            if (canSwap(w)) {
                Model m = copy();
                m.doSwap(w);
                if (swaps == 1 ? m.sides(c) == n : m.firstBy(c, n, swaps - 1) >= 0) {
                    return w;
                }
            }
        }
        return -1;
    }

    int reach(int c, int n, int what) {
        if (!rows.containsKey(c) || what < 0 || what > 1) {
            return -1;
        }
        if (sides(c) == n) {
            return what == 0 ? 0 : -1;
        }
        for (int k = 1; k <= 2; k++) {
            int w = firstBy(c, n, k);
            if (w >= 0) {
                return what == 0 ? k : w;
            }
        }
        return -1;
    }

    int alike() {
        Model m = copy();
        for (int k = 1; k <= 50; k++) {
            m.step();
            boolean same = m.rows.keySet().equals(rows.keySet());
            for (int c : rows.keySet()) {
                same = same && m.sides(c) == sides(c);
            }
            if (same) {
                return k;
            }
        }
        return -1;
    }

    int until(int n) {
        Model m = copy();
        for (int k = 0; k <= 99; k++) {
            if (m.rows.size() <= n) {
                return k;
            }
            m.step();
        }
        return -1;
    }

    int rested(int seed, int many, int n, int h, int what) {
        if (!shakeable(seed, n, h) || many < 1 || many > 10 || !shakeable(seed + many - 1, n, h)
            || what < 0 || what > 1) {
            return -1;
        }
        TreeMap<Integer, Integer> first = new TreeMap<>();
        for (int k = 0; k < many; k++) {
            Model m = copy();
            m.shake(seed + k, n, h);
            m.relax();
            first.putIfAbsent(m.strain(), seed + k);
        }
        return what == 0 ? first.firstKey() : first.firstEntry().getValue();
    }

    int resting(int what) {
        Model m = copy();
        int k = m.relax();
        return what == 0 ? k : what == 1 ? m.strain() : -1;
    }

    int later(int n, int what) {
        if (n < 0 || n > 50 || what < 0 || what > 4) {
            return Integer.MIN_VALUE;
        }
        Model m = copy();
        for (int k = 0; k < n; k++) {
            m.step();
        }
        int[] t = {m.rows.size(), m.strain(), m.counts[4] - counts[4], m.counts[5] - counts[5],
            Collections.min(m.areas.values())};
        return t[what];
    }

    int gone(int c) {
        if (!rows.containsKey(c)) {
            return -1;
        }
        Model m = copy();
        for (int k = 1; k <= 50; k++) {
            m.step();
            if (!m.rows.containsKey(c)) {
                return k;
            }
        }
        return -1;
    }

    int first(int what) {
        if (what < 0 || what > 1) {
            return -1;
        }
        Model m = copy();
        for (int k = 1; k <= 50; k++) {
            m.step();
            if (m.counts[4 + what] > counts[4 + what]) {
                return k;
            }
        }
        return -1;
    }

    int log(int i, int what) {
        return i < 0 || i >= log.size() || what < 0 || what > 2 ? -1 : log.get(i)[what];
    }

    int count(int what) {
        switch (what) {
            case 0: return rows.size();
            case 1: return walls.size();
            case 2: return 2 * rows.size();
            case 10: return log.size();
            default: return what < 0 || what > 15 ? -1 : counts[what];
        }
    }

    /** What is so in every foam; a text if it isn't. */
    String broken() {
        if (walls.size() != 3 * rows.size()) {
            return "not three walls a cell";
        }
        for (int c : rows.keySet()) {
            if (sides(c) < 3) {
                return "a cell of fewer than three sides";
            }
            for (int w : rows.get(c)) {
                Wall v = walls.get(w);
                int o = v.other(c);
                if (v.a == v.b || v.a != c && v.b != c) {
                    return "a wall that lies not between two";
                }
                // the three CELLS at the MEETING where w ends
                int end = behind(c, w);
                if (ahead(o, w) != end) {
                    return "a meeting of more than three";
                }
                Wall cEnd = walls.get(rowFrom(c, w).get(1));
                List<Integer> ro = rowFrom(o, w);
                Wall oEnd = walls.get(ro.get(ro.size() - 1));
                if (v.x(c) + oEnd.x(o) + cEnd.x(end) != 0 || v.y(c) + oEnd.y(o) + cEnd.y(end) != 0) {
                    return "rounds about a meeting are not 0";
                }
            }
        }
        return null;
    }
}
