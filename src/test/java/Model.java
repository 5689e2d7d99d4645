import java.util.ArrayList;
import java.util.List;

/**
 * The document read a second time, as literally and slowly as can be, to be compared with OilLine:
 * measures are objects in a list, a PUSH is done on a copy of everything, UNDO goes back to the old copy.
 */
final class Model {
    static final int NONE = -1, BAD = -2, STATE = -3, FULL = -4;

    static final class Measure {
        int batch, kind, fore = NONE, went;

        boolean pure() {
            return fore == NONE;
        }
    }

    static final class Tank {
        int least, most, amount, foreign, came;
    }

    static final class Door {
        int place, rate = 10, slop;
        final Tank[] tanks = new Tank[8];
    }

    static final class Wish {
        int door, kind, n, by, base, kept = NONE;
    }

    static final class Batch {
        int kind, door = NONE, out;
    }

    static final class World {
        List<Measure> pipe = new ArrayList<>();
        List<Door> doors = new ArrayList<>();
        List<Wish> wishes = new ArrayList<>();
        List<Batch> batches = new ArrayList<>();
        int time, cost;

        World(int n) {
            for (int i = 0; i < n; i++) {
                pipe.add(new Measure());
            }
            batches.add(new Batch());
        }

        World copy() {
            World w = new World(0);
            w.batches.clear();
            w.time = time;
            w.cost = cost;
            for (Measure m : pipe) {
                Measure c = new Measure();
                c.batch = m.batch;
                c.kind = m.kind;
                c.fore = m.fore;
                c.went = m.went;
                w.pipe.add(c);
            }
            for (Door d : doors) {
                w.doors.add(copyOf(d));
            }
            for (Wish v : wishes) {
                Wish c = new Wish();
                c.door = v.door;
                c.kind = v.kind;
                c.n = v.n;
                c.by = v.by;
                c.base = v.base;
                c.kept = v.kept;
                w.wishes.add(c);
            }
            for (Batch b : batches) {
                Batch c = new Batch();
                c.kind = b.kind;
                c.door = b.door;
                c.out = b.out;
                w.batches.add(c);
            }
            return w;
        }

        private static Door copyOf(Door d) {
            Door c = new Door();
            c.place = d.place;
            c.rate = d.rate;
            c.slop = d.slop;
            for (int k = 0; k < 8; k++) {
                Tank t = d.tanks[k];
                if (t != null) {
                    Tank u = new Tank();
                    u.least = t.least;
                    u.most = t.most;
                    u.amount = t.amount;
                    u.foreign = t.foreign;
                    u.came = t.came;
                    c.tanks[k] = u;
                }
            }
            return c;
        }
    }

    private final int[][] may = new int[8][8], mix = new int[8][8];
    private final int[] grace = new int[8], price = new int[24];
    private World w = new World(20);
    private final List<World> past = new ArrayList<>();

    Model() {
        for (int[] row : may) {
            java.util.Arrays.fill(row, 1);
        }
        java.util.Arrays.fill(price, 1);
    }

    private static boolean in(int x, int lo, int hi) {
        return x >= lo && x <= hi;
    }

    private boolean isDoor(int d) {
        return in(d, 0, w.doors.size() - 1);
    }

    private Tank tankAt(int d, int k) {
        return isDoor(d) && in(k, 0, 7) ? w.doors.get(d).tanks[k] : null;
    }

    int line(int n) {
        if (!in(n, 4, 120)) return BAD;
        w = new World(n);
        past.clear();
        return 0;
    }

    int door(int place) {
        if (!in(place, 0, w.pipe.size())) return BAD;
        for (Door d : w.doors) {
            if (d.place == place) return STATE;
        }
        if (w.doors.size() == 6) return FULL;
        Door d = new Door();
        d.place = place;
        w.doors.add(d);
        past.clear();
        return w.doors.size() - 1;
    }

    int tank(int door, int kind, int least, int most, int amount) {
        if (!isDoor(door) || !in(kind, 0, 7)) return NONE;
        boolean told = 0 <= least && least <= amount && amount <= most && most <= 10000;
        if (!told) return BAD;
        if (tankAt(door, kind) != null) return STATE;
        Tank t = new Tank();
        t.least = least;
        t.most = most;
        t.amount = amount;
        w.doors.get(door).tanks[kind] = t;
        past.clear();
        return 0;
    }

    int follow(int x, int y, int m, int n) {
        if (!in(x, 0, 7) || !in(y, 0, 7)) return NONE;
        if (!in(m, 0, 1) || !in(n, 0, 200)) return BAD;
        if (m == 0 && x == y) return STATE;
        may[x][y] = m;
        mix[x][y] = n;
        past.clear();
        return 0;
    }

    int grace(int kind, int h) {
        if (!in(kind, 0, 7)) return NONE;
        if (!in(h, 0, 100)) return BAD;
        int old = grace[kind];
        grace[kind] = h;
        past.clear();
        return old;
    }

    int rate(int door, int r) {
        if (!isDoor(door)) return NONE;
        if (!in(r, 1, 60)) return BAD;
        int old = w.doors.get(door).rate;
        w.doors.get(door).rate = r;
        past.clear();
        return old;
    }

    int price(int hour, int p) {
        if (!in(hour, 0, 23)) return NONE;
        if (!in(p, 0, 100)) return BAD;
        int old = price[hour];
        price[hour] = p;
        past.clear();
        return old;
    }

    int wish(int door, int kind, int n, int by) {
        Tank t = tankAt(door, kind);
        if (t == null) return NONE;
        if (!in(n, 1, 1000) || !in(by, 0, 100000)) return BAD;
        if (w.wishes.size() == 20) return FULL;
        Wish v = new Wish();
        v.door = door;
        v.kind = kind;
        v.n = n;
        v.by = by;
        v.base = t.came;
        w.wishes.add(v);
        past.clear();
        return w.wishes.size() - 1;
    }

    int push(int a, int b, int kind, int n) {
        World old = w;
        int answer = tryPush(a, b, kind, n);
        if (answer >= 0) past.add(old);
        return answer;
    }

    int trial(int a, int b, int kind, int n) {
        World old = w;
        int answer = tryPush(a, b, kind, n);
        w = old;
        return answer;
    }

    private int tryPush(int a, int b, int kind, int n) {
        if (!isDoor(a) || !isDoor(b) || !in(kind, 0, 7)) return NONE;
        if (w.doors.get(a).place >= w.doors.get(b).place || !in(n, 1, 60)) return BAD;
        if (w.batches.size() == 200) return FULL;
        World old = w;
        w = w.copy();
        Batch batch = new Batch();
        batch.kind = kind;
        batch.door = a;
        w.batches.add(batch);
        for (int i = 0; i < n; i++) {
            int refusal = step(w.doors.get(a), w.doors.get(b), kind);
            if (refusal != 0) {
                w = old;
                return -10 - refusal;
            }
        }
        int rate = Math.min(w.doors.get(a).rate, w.doors.get(b).rate);
        for (int left = n; left > 0; left -= rate) {
            w.cost += price[w.time % 24];
            w.time++;
        }
        for (Wish v : w.wishes) {
            if (v.kept == NONE && tankAt(v.door, v.kind).came - v.base >= v.n) v.kept = w.time;
        }
        return w.batches.size() - 1;
    }

    private int step(Door a, Door b, int kind) {
        Tank from = a.tanks[kind];
        if (from == null || from.amount - 1 < from.least) return 1;
        Measure out = w.pipe.remove(b.place - 1);
        w.batches.get(out.batch).out++;
        Tank into = taker(b, out);
        if (into == null) {
            b.slop++;
        } else {
            into.amount++;
            into.came++;
            if (!out.pure()) into.foreign++;
            if (into.amount > into.most) return 2;
        }
        Measure fresh = new Measure();
        fresh.batch = w.batches.size() - 1;
        fresh.kind = kind;
        w.pipe.add(a.place, fresh);
        from.amount--;
        if (from.foreign > from.amount) from.foreign = from.amount;
        mixAll(a.place, b.place);
        return clash(a.place) || clash(b.place - 1) ? 3 : 0;
    }

    private Tank taker(Door b, Measure out) {
        if (out.pure()) return b.tanks[out.kind];
        for (int kind : new int[] {out.kind, out.fore}) {
            Tank t = b.tanks[kind];
            if (t == null) continue;
            double share = (t.foreign + 1) * 100.0 / (t.amount + 1);
            if (share <= grace[kind] + 1e-9) return t;
        }
        return null;
    }

    private int pureFrom(int m, int way) {
        int i = m + way;
        while (i >= 0 && i < w.pipe.size() && !w.pipe.get(i).pure()) {
            i += way;
        }
        return i >= 0 && i < w.pipe.size() ? i : NONE;
    }

    private boolean border(int y) {
        if (!w.pipe.get(y).pure()) return false;
        int x = pureFrom(y, -1);
        return x != NONE && w.pipe.get(x).kind != w.pipe.get(y).kind;
    }

    /** All BORDERS are found ahead of the first that mixes. */
    private void mixAll(int from, int to) {
        List<int[]> found = new ArrayList<>();
        for (int y = w.pipe.size() - 1; y >= 0; y--) {
            if (border(y)) {
                int x = pureFrom(y, -1);
                if (in(x, from, to - 1) && in(y, from, to - 1)) found.add(new int[] {x, y});
            }
        }
        for (int[] pair : found) {
            mixOne(pair[0], pair[1], from, to);
        }
    }

    private void mixOne(int px, int py, int from, int to) {
        Measure x = w.pipe.get(px), y = w.pipe.get(py);
        int limit = mix[x.kind][y.kind];
        if (limit == 0) return;
        if (y.went < limit) y.went++;
        if (y.went >= limit) {
            int between = 0;
            for (int i = px + 1; i < py; i++) {
                if (!w.pipe.get(i).pure()) between++;
            }
            boolean even = between % 2 == 0;
            int far = even ? px - 1 : py + 1;
            Measure it = even ? x : y;
            if (!in(far, from, to - 1)) return;
            if (!w.pipe.get(far).pure() || w.pipe.get(far).batch != it.batch) return;
            int hind = x.kind, fore = y.kind;
            it.kind = hind;
            it.fore = fore;
            w.pipe.get(even ? py : far).went = 0;
        }
    }

    private boolean clash(int m) {
        Measure it = w.pipe.get(m);
        int x = pureFrom(m, -1), y = pureFrom(m, 1);
        if (!it.pure()) return x != NONE && y != NONE && may[w.pipe.get(x).kind][w.pipe.get(y).kind] == 0;
        if (x != NONE && may[w.pipe.get(x).kind][it.kind] == 0) return true;
        return y != NONE && may[it.kind][w.pipe.get(y).kind] == 0;
    }

    int undo() {
        if (past.isEmpty()) return STATE;
        int gone = w.batches.size() - 1;
        w = past.remove(past.size() - 1);
        return gone;
    }

    int pause(int hours) {
        if (!in(hours, 0, 1000)) return BAD;
        past.clear();
        w.time += hours;
        return w.time;
    }

    int at(int m, int what) {
        if (!in(m, 0, w.pipe.size() - 1) || !in(what, 0, 3)) return NONE;
        Measure it = w.pipe.get(m);
        return new int[] {it.batch, it.kind, it.fore, border(m) ? it.went : 0}[what];
    }

    int batch(int b, int what) {
        if (!in(b, 0, w.batches.size() - 1) || !in(what, 0, 5)) return NONE;
        int count = 0, least = NONE, greatest = NONE;
        for (int i = 0; i < w.pipe.size(); i++) {
            if (w.pipe.get(i).batch == b) {
                count++;
                greatest = i;
                if (least == NONE) least = i;
            }
        }
        Batch it = w.batches.get(b);
        return new int[] {it.kind, count, least, greatest, it.out, it.door}[what];
    }

    int tankOf(int door, int kind, int what) {
        Tank t = tankAt(door, kind);
        if (t == null || !in(what, 0, 4)) return NONE;
        return new int[] {t.amount, t.foreign, t.least, t.most, t.came}[what];
    }

    int about(int door, int what) {
        if (!isDoor(door) || !in(what, 0, 2)) return NONE;
        Door d = w.doors.get(door);
        return new int[] {d.place, d.rate, d.slop}[what];
    }

    int wished(int v, int what) {
        if (!in(v, 0, w.wishes.size() - 1) || !in(what, 0, 2)) return NONE;
        Wish it = w.wishes.get(v);
        int end = it.kept == NONE ? w.time : it.kept;
        int late = end > it.by ? end - it.by : 0;
        int wanting = it.n - (tankAt(it.door, it.kind).came - it.base);
        return new int[] {it.kept, late, wanting < 0 ? 0 : wanting}[what];
    }

    int count(int what) {
        if (!in(what, 0, 8)) return NONE;
        int mixed = 0, slop = 0, late = 0;
        for (Measure m : w.pipe) {
            if (!m.pure()) mixed++;
        }
        for (Door d : w.doors) {
            slop += d.slop;
        }
        for (int v = 0; v < w.wishes.size(); v++) {
            late += wished(v, 1);
        }
        return new int[] {w.time, w.cost, w.batches.size(), mixed, slop, w.pipe.size(), w.doors.size(), late,
            past.size()}[what];
    }

    int borders() {
        int count = 0;
        for (int y = 0; y < w.pipe.size(); y++) {
            if (border(y)) count++;
        }
        return count;
    }
}
