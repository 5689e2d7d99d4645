import java.util.Arrays;

/** One pipe that is always full, its doors, tanks, hours and wishes. README.md tells how to use it. */
public final class OilLine {
    public static final int NONE = -1, BAD = -2, STATE = -3, FULL = -4;

    private static final int SHORTEST_LINE = 4, LONGEST_LINE = 120, FIRST_LINE = 20;
    private static final int KINDS = 8, MOST_DOORS = 6, MOST_WISHES = 20, MOST_BATCHES = 200;
    private static final int TANKS = MOST_DOORS * KINDS;
    private static final int MOST_IN_TANK = 10000, MOST_MIX = 200, HUNDRED = 100;
    private static final int MOST_RATE = 60, FIRST_RATE = 10;
    private static final int HOURS_A_DAY = 24, MOST_PRICE = 100, FIRST_PRICE = 1;
    private static final int MOST_PUSHED = 60, MOST_WAIT = 1000;
    private static final int MOST_WISHED = 1000, LAST_WISH_TIME = 100000;
    private static final int FITS = 0, TOO_DRY = 1, TOO_FULL = 2, MAY_NOT_FOLLOW = 3, REFUSED = -10;

    private final Tables tables = new Tables();
    private final Doors doors = new Doors();
    private final Wishes wishes = new Wishes();
    private final Plan plan = new Plan();
    private final int[] batchKind = new int[MOST_BATCHES];
    private final int[] batchDoor = new int[MOST_BATCHES];
    private final Moment now = new Moment();
    /** How all was ahead of each PUSH that can be taken back; a row once made is used again. */
    private final Moment[] earlier = new Moment[MOST_BATCHES];
    private int undoable = 0;

    public OilLine() {
        batchDoor[0] = NONE;
        now.renew(FIRST_LINE);
    }

    public int line(int n) {
        if (!within(n, SHORTEST_LINE, LONGEST_LINE)) {
            return BAD;
        }
        doors.clear();
        wishes.size = 0;
        now.renew(n);
        undoable = 0;
        return 0;
    }

    public int door(int place) {
        if (!within(place, 0, now.pipe.size)) {
            return BAD;
        }
        if (doors.isTaken(place)) {
            return STATE;
        }
        if (doors.size >= MOST_DOORS) {
            return FULL;
        }
        undoable = 0;
        return doors.open(place);
    }

    public int tank(int door, int kind, int least, int most, int amount) {
        if (!doors.has(door) || !isKind(kind)) {
            return NONE;
        }
        if (!within(most, 0, MOST_IN_TANK) || !within(least, 0, most) || !within(amount, least, most)) {
            return BAD;
        }
        int tank = tankNumber(door, kind);
        if (doors.isTank[tank]) {
            return STATE;
        }
        doors.build(tank, least, most);
        now.stock.fill(tank, amount);
        undoable = 0;
        return 0;
    }

    public int follow(int x, int y, int may, int mix) {
        if (!isKind(x) || !isKind(y)) {
            return NONE;
        }
        if (!within(may, 0, 1) || !within(mix, 0, MOST_MIX)) {
            return BAD;
        }
        if (may == 0 && x == y) {
            return STATE;
        }
        tables.tellPair(x, y, may == 1, mix);
        undoable = 0;
        return 0;
    }

    public int grace(int kind, int hundredths) {
        if (!isKind(kind)) {
            return NONE;
        }
        if (!within(hundredths, 0, HUNDRED)) {
            return BAD;
        }
        undoable = 0;
        return exchange(tables.grace, kind, hundredths);
    }

    public int rate(int door, int r) {
        if (!doors.has(door)) {
            return NONE;
        }
        if (!within(r, 1, MOST_RATE)) {
            return BAD;
        }
        undoable = 0;
        return exchange(doors.rate, door, r);
    }

    public int price(int hour, int p) {
        if (!within(hour, 0, HOURS_A_DAY - 1)) {
            return NONE;
        }
        if (!within(p, 0, MOST_PRICE)) {
            return BAD;
        }
        undoable = 0;
        return exchange(tables.price, hour, p);
    }

    public int wish(int door, int kind, int n, int by) {
        if (!hasTank(door, kind)) {
            return NONE;
        }
        if (!within(n, 1, MOST_WISHED) || !within(by, 0, LAST_WISH_TIME)) {
            return BAD;
        }
        if (wishes.size >= MOST_WISHES) {
            return FULL;
        }
        undoable = 0;
        int tank = tankNumber(door, kind);
        now.keptAt[wishes.size] = NONE;
        return wishes.tell(tank, n, by, now.stock.came[tank]);
    }

    public int push(int a, int b, int kind, int n) {
        int answer = attempt(a, b, kind, n);
        if (answer >= 0) {
            undoable++;
        }
        return answer;
    }

    public int trial(int a, int b, int kind, int n) {
        int answer = attempt(a, b, kind, n);
        if (answer >= 0) {
            now.copyFrom(earlierAt(undoable));
        }
        return answer;
    }

    public int undo() {
        if (undoable == 0) {
            return STATE;
        }
        undoable--;
        now.copyFrom(earlierAt(undoable));
        return now.batches;
    }

    public int wait(int hours) {
        if (!within(hours, 0, MOST_WAIT)) {
            return BAD;
        }
        undoable = 0;
        now.time += hours;
        return now.time;
    }

    public int at(int measure, int what) {
        Pipe pipe = now.pipe;
        if (!within(measure, 0, pipe.size - 1)) {
            return NONE;
        }
        switch (what) {
            case 0: return pipe.batchOf[measure];
            case 1: return pipe.kindOf[measure];
            case 2: return pipe.foreOf[measure];
            case 3: return pipe.isBorder(measure) ? pipe.went[measure] : 0;
            default: return NONE;
        }
    }

    public int batch(int b, int what) {
        if (!within(b, 0, now.batches - 1)) {
            return NONE;
        }
        switch (what) {
            case 0: return batchKind[b];
            case 1: return now.pipe.countOf(b);
            case 2: return now.pipe.leastOf(b);
            case 3: return now.pipe.greatestOf(b);
            case 4: return now.wentOut[b];
            case 5: return batchDoor[b];
            default: return NONE;
        }
    }

    public int tankOf(int door, int kind, int what) {
        if (!hasTank(door, kind)) {
            return NONE;
        }
        int tank = tankNumber(door, kind);
        switch (what) {
            case 0: return now.stock.amount[tank];
            case 1: return now.stock.foreign[tank];
            case 2: return doors.least[tank];
            case 3: return doors.most[tank];
            case 4: return now.stock.came[tank];
            default: return NONE;
        }
    }

    public int about(int door, int what) {
        if (!doors.has(door)) {
            return NONE;
        }
        switch (what) {
            case 0: return doors.place[door];
            case 1: return doors.rate[door];
            case 2: return now.stock.slop[door];
            default: return NONE;
        }
    }

    public int wished(int w, int what) {
        if (!within(w, 0, wishes.size - 1)) {
            return NONE;
        }
        switch (what) {
            case 0: return now.keptAt[w];
            case 1: return wishes.lateBy(w, now);
            case 2: return wishes.wanting(w, now.stock);
            default: return NONE;
        }
    }

    public int count(int what) {
        switch (what) {
            case 0: return now.time;
            case 1: return now.cost;
            case 2: return now.batches;
            case 3: return now.pipe.countMixed();
            case 4: return now.stock.slopOfAll();
            case 5: return now.pipe.size;
            case 6: return doors.size;
            case 7: return wishes.lateByAll(now);
            case 8: return undoable;
            default: return NONE;
        }
    }

    public int borders() {
        return now.pipe.countBorders();
    }

    /** Goes through with a PUSH if nothing refuses it; how all was ahead of it is then kept at 'undoable'. */
    private int attempt(int a, int b, int kind, int n) {
        if (!doors.has(a) || !doors.has(b) || !isKind(kind)) {
            return NONE;
        }
        if (doors.place[b] <= doors.place[a] || !within(n, 1, MOST_PUSHED)) {
            return BAD;
        }
        if (now.batches >= MOST_BATCHES) {
            return FULL;
        }
        Moment ahead = earlierAt(undoable);
        ahead.copyFrom(now);
        plan.set(a, b, kind, doors);
        int refusal = now.flow(plan, n, doors, tables);
        if (refusal != FITS) {
            now.copyFrom(ahead);
            return REFUSED - refusal;
        }
        now.pass(hoursFor(a, b, n), tables);
        wishes.keep(now);
        return register(kind, a);
    }

    private int register(int kind, int door) {
        int number = now.batches;
        batchKind[number] = kind;
        batchDoor[number] = door;
        now.batches = number + 1;
        return number;
    }

    private int hoursFor(int a, int b, int n) {
        int rate = Math.max(1, Math.min(doors.rate[a], doors.rate[b]));
        return (n + rate - 1) / rate;
    }

    /** A row is made when a PUSH first comes so far, for most objects never see many in a row. */
    private Moment earlierAt(int depth) {
        int row = Math.max(0, Math.min(depth, MOST_BATCHES - 1));
        if (earlier[row] == null) {
            earlier[row] = new Moment();
        }
        return earlier[row];
    }

    private boolean hasTank(int door, int kind) {
        return doors.has(door) && isKind(kind) && doors.isTank[tankNumber(door, kind)];
    }

    private static boolean isKind(int kind) {
        return within(kind, 0, KINDS - 1);
    }

    private static boolean within(int x, int least, int most) {
        return least <= x && x <= most;
    }

    private static int tankNumber(int door, int kind) {
        return door * KINDS + kind;
    }

    private static int exchange(int[] row, int index, int value) {
        int old = row[index];
        row[index] = value;
        return old;
    }

    /** What a new LINE leaves as it is. */
    private static final class Tables {
        final boolean[] may = new boolean[KINDS * KINDS];
        final int[] mix = new int[KINDS * KINDS];
        final int[] grace = new int[KINDS];
        final int[] price = new int[HOURS_A_DAY];

        Tables() {
            for (int pair = 0; pair < may.length; pair++) {
                may[pair] = true;
            }
            Arrays.fill(price, FIRST_PRICE);
        }

        void tellPair(int hind, int fore, boolean mayFollow, int steps) {
            may[hind * KINDS + fore] = mayFollow;
            mix[hind * KINDS + fore] = steps;
        }

        boolean mayFollow(int hind, int fore) {
            return may[hind * KINDS + fore];
        }

        int mixOf(int hind, int fore) {
            return mix[hind * KINDS + fore];
        }

        /** Overflow of TIME lies far beyond an object's 512 calls, but even then there must be an hour. */
        int priceAt(int time) {
            return price[Math.floorMod(time, HOURS_A_DAY)];
        }
    }

    /** DOORS and what no PUSH changes of their TANKS. */
    private static final class Doors {
        int size = 0;
        final int[] place = new int[MOST_DOORS];
        final int[] rate = new int[MOST_DOORS];
        final boolean[] isTank = new boolean[TANKS];
        final int[] least = new int[TANKS];
        final int[] most = new int[TANKS];

        void clear() {
            size = 0;
            for (int tank = 0; tank < TANKS; tank++) {
                isTank[tank] = false;
            }
        }

        boolean has(int door) {
            return within(door, 0, size - 1);
        }

        boolean isTaken(int where) {
            for (int door = 0; door < size; door++) {
                if (place[door] == where) {
                    return true;
                }
            }
            return false;
        }

        int open(int where) {
            int door = size;
            place[door] = where;
            rate[door] = FIRST_RATE;
            size = door + 1;
            return door;
        }

        void build(int tank, int leastAmount, int mostAmount) {
            isTank[tank] = true;
            least[tank] = leastAmount;
            most[tank] = mostAmount;
        }
    }

    /** What no PUSH changes of the WISHES. */
    private static final class Wishes {
        int size = 0;
        final int[] tank = new int[MOST_WISHES];
        final int[] wanted = new int[MOST_WISHES];
        final int[] by = new int[MOST_WISHES];
        /** What had come into the TANK ahead of the WISH does not count for it. */
        final int[] cameAhead = new int[MOST_WISHES];

        int tell(int itsTank, int n, int time, int came) {
            int wish = size;
            tank[wish] = itsTank;
            wanted[wish] = n;
            by[wish] = time;
            cameAhead[wish] = came;
            size = wish + 1;
            return wish;
        }

        int wanting(int wish, Stock stock) {
            int came = stock.came[tank[wish]] - cameAhead[wish];
            return Math.max(0, wanted[wish] - came);
        }

        void keep(Moment now) {
            for (int wish = 0; wish < size; wish++) {
                if (now.keptAt[wish] == NONE && wanting(wish, now.stock) == 0) {
                    now.keptAt[wish] = now.time;
                }
            }
        }

        int lateBy(int wish, Moment now) {
            int end = now.keptAt[wish] == NONE ? now.time : now.keptAt[wish];
            return Math.max(0, end - by[wish]);
        }

        int lateByAll(Moment now) {
            int hours = 0;
            for (int wish = 0; wish < size; wish++) {
                hours += lateBy(wish, now);
            }
            return hours;
        }
    }

    /** From where to where the PUSH at hand goes. */
    private static final class Plan {
        int kind = 0;
        int sourceTank = 0;
        int sinkDoor = 0;
        /** The first MEASURE that moves, and the one behind the last that does. */
        int from = 0;
        int to = 0;

        void set(int a, int b, int pushedKind, Doors doors) {
            kind = pushedKind;
            sourceTank = tankNumber(a, pushedKind);
            sinkDoor = b;
            from = doors.place[a];
            to = doors.place[b];
        }
    }

    /** All that a PUSH changes and UNDO brings back. */
    private static final class Moment {
        int time = 0;
        int cost = 0;
        int batches = 1;
        final Pipe pipe = new Pipe();
        final Stock stock = new Stock();
        final int[] wentOut = new int[MOST_BATCHES];
        final int[] keptAt = new int[MOST_WISHES];

        void renew(int measures) {
            time = 0;
            cost = 0;
            batches = 1;
            wentOut[0] = 0;
            pipe.renew(measures);
            stock.clear();
        }

        void copyFrom(Moment other) {
            time = other.time;
            cost = other.cost;
            batches = other.batches;
            pipe.copyFrom(other.pipe);
            stock.copyFrom(other.stock);
            System.arraycopy(other.wentOut, 0, wentOut, 0, batches);
            System.arraycopy(other.keptAt, 0, keptAt, 0, MOST_WISHES);
        }

        /** The steps of a PUSH up to the first that is refused: by what, or FITS. */
        int flow(Plan plan, int n, Doors doors, Tables tables) {
            wentOut[batches] = 0;
            for (int done = 0; done < n; done++) {
                int refusal = step(plan, doors, tables);
                if (refusal != FITS) {
                    return refusal;
                }
            }
            return FITS;
        }

        private int step(Plan plan, Doors doors, Tables tables) {
            int source = plan.sourceTank;
            if (!doors.isTank[source] || stock.amount[source] - 1 < doors.least[source]) {
                return TOO_DRY;
            }
            int last = plan.to - 1;
            int sink = sinkFor(last, plan.sinkDoor, doors, tables);
            if (sink != NONE && stock.amount[sink] + 1 > doors.most[sink]) {
                return TOO_FULL;
            }
            letOut(last, sink, plan.sinkDoor);
            pipe.moveOn(plan.from, last);
            pipe.put(plan.from, batches, plan.kind);
            stock.takeOne(source);
            pipe.mixBorders(plan.from, plan.to, tables);
            boolean clash = pipe.clashesAt(plan.from, tables) || pipe.clashesAt(last, tables);
            return clash ? MAY_NOT_FOLLOW : FITS;
        }

        private void letOut(int measure, int sink, int door) {
            wentOut[pipe.batchOf[measure]]++;
            if (sink == NONE) {
                stock.slop[door]++;
            } else {
                stock.putOne(sink, !pipe.isPure(measure));
            }
        }

        /** The TANK that takes the MEASURE at that DOOR, NONE if it is SLOP. */
        private int sinkFor(int measure, int door, Doors doors, Tables tables) {
            int hind = tankNumber(door, pipe.kindOf[measure]);
            if (pipe.isPure(measure)) {
                return doors.isTank[hind] ? hind : NONE;
            }
            if (doors.isTank[hind] && stock.bearsForeign(hind, tables.grace[pipe.kindOf[measure]])) {
                return hind;
            }
            int fore = tankNumber(door, pipe.foreOf[measure]);
            if (doors.isTank[fore] && stock.bearsForeign(fore, tables.grace[pipe.foreOf[measure]])) {
                return fore;
            }
            return NONE;
        }

        void pass(int hours, Tables tables) {
            for (int hour = 0; hour < hours; hour++) {
                cost += tables.priceAt(time);
                time++;
            }
        }
    }

    /** What the TANKS hold and what became SLOP at the DOORS. */
    private static final class Stock {
        final int[] amount = new int[TANKS];
        final int[] foreign = new int[TANKS];
        final int[] came = new int[TANKS];
        final int[] slop = new int[MOST_DOORS];

        void clear() {
            Arrays.fill(slop, 0);
        }

        void copyFrom(Stock other) {
            System.arraycopy(other.amount, 0, amount, 0, TANKS);
            System.arraycopy(other.foreign, 0, foreign, 0, TANKS);
            System.arraycopy(other.came, 0, came, 0, TANKS);
            System.arraycopy(other.slop, 0, slop, 0, MOST_DOORS);
        }

        void fill(int tank, int howMuch) {
            amount[tank] = howMuch;
            foreign[tank] = 0;
            came[tank] = 0;
        }

        boolean bearsForeign(int tank, int hundredths) {
            return (foreign[tank] + 1) * HUNDRED <= hundredths * (amount[tank] + 1);
        }

        void putOne(int tank, boolean isForeign) {
            amount[tank]++;
            came[tank]++;
            if (isForeign) {
                foreign[tank]++;
            }
        }

        void takeOne(int tank) {
            amount[tank]--;
            foreign[tank] = Math.min(foreign[tank], amount[tank]);
        }

        int slopOfAll() {
            int sum = 0;
            for (int door = 0; door < MOST_DOORS; door++) {
                sum += slop[door];
            }
            return sum;
        }
    }

    /** The MEASURES of THE LINE. */
    private static final class Pipe {
        int size = 0;
        final int[] batchOf = new int[LONGEST_LINE];
        /** Of a MIXED one the HIND KIND. */
        final int[] kindOf = new int[LONGEST_LINE];
        /** NONE of a PURE one. */
        final int[] foreOf = new int[LONGEST_LINE];
        /** Stays with the MEASURE even while it is no BORDER's. */
        final int[] went = new int[LONGEST_LINE];

        void renew(int measures) {
            size = measures;
            for (int measure = 0; measure < size; measure++) {
                put(measure, 0, 0);
            }
        }

        void copyFrom(Pipe other) {
            size = other.size;
            System.arraycopy(other.batchOf, 0, batchOf, 0, size);
            System.arraycopy(other.kindOf, 0, kindOf, 0, size);
            System.arraycopy(other.foreOf, 0, foreOf, 0, size);
            System.arraycopy(other.went, 0, went, 0, size);
        }

        void put(int measure, int batch, int kind) {
            batchOf[measure] = batch;
            kindOf[measure] = kind;
            foreOf[measure] = NONE;
            went[measure] = 0;
        }

        void moveOn(int from, int last) {
            int moved = last - from;
            System.arraycopy(batchOf, from, batchOf, from + 1, moved);
            System.arraycopy(kindOf, from, kindOf, from + 1, moved);
            System.arraycopy(foreOf, from, foreOf, from + 1, moved);
            System.arraycopy(went, from, went, from + 1, moved);
        }

        boolean isPure(int measure) {
            return foreOf[measure] == NONE;
        }

        int neighbourToBegin(int measure) {
            for (int other = measure - 1; other >= 0; other--) {
                if (isPure(other)) {
                    return other;
                }
            }
            return NONE;
        }

        int neighbourToEnd(int measure) {
            for (int other = measure + 1; other < size; other++) {
                if (isPure(other)) {
                    return other;
                }
            }
            return NONE;
        }

        boolean isBorder(int measure) {
            if (!isPure(measure)) {
                return false;
            }
            int hind = neighbourToBegin(measure);
            return hind != NONE && kindOf[hind] != kindOf[measure];
        }

        int countBorders() {
            int found = 0;
            for (int measure = 0; measure < size; measure++) {
                if (isBorder(measure)) {
                    found++;
                }
            }
            return found;
        }

        int countMixed() {
            int found = 0;
            for (int measure = 0; measure < size; measure++) {
                if (!isPure(measure)) {
                    found++;
                }
            }
            return found;
        }

        int countOf(int batch) {
            int found = 0;
            for (int measure = 0; measure < size; measure++) {
                if (batchOf[measure] == batch) {
                    found++;
                }
            }
            return found;
        }

        int leastOf(int batch) {
            for (int measure = 0; measure < size; measure++) {
                if (batchOf[measure] == batch) {
                    return measure;
                }
            }
            return NONE;
        }

        int greatestOf(int batch) {
            for (int measure = size - 1; measure >= 0; measure--) {
                if (batchOf[measure] == batch) {
                    return measure;
                }
            }
            return NONE;
        }

        /**
         * A HIND one that became MIXED is still taken for the next FORE one: its far side is PURE and of
         * its BATCH, so that no BORDER is seen there, and this one is not gone through twice.
         */
        void mixBorders(int from, int to, Tables tables) {
            int fore = NONE;
            for (int hind = to - 1; hind >= from; hind--) {
                if (!isPure(hind)) {
                    continue;
                }
                if (fore != NONE && kindOf[hind] != kindOf[fore]) {
                    int far = farSide(hind, fore, tables);
                    if (far >= from && far < to) {
                        mixOne(hind, fore, far);
                    }
                }
                fore = hind;
            }
        }

        /** Lets the BORDER go one step; the far side of the MEASURE that is to mix now, NONE if none is. */
        private int farSide(int hind, int fore, Tables tables) {
            int limit = tables.mixOf(kindOf[hind], kindOf[fore]);
            if (limit == 0) {
                return NONE;
            }
            if (went[fore] < limit) {
                went[fore]++;
            }
            if (went[fore] < limit) {
                return NONE;
            }
            return hindIsNext(hind, fore) ? hind - 1 : fore + 1;
        }

        private boolean hindIsNext(int hind, int fore) {
            int mixedBetween = fore - hind - 1;
            return mixedBetween % 2 == 0;
        }

        private void mixOne(int hind, int fore, int far) {
            boolean hindMixes = hindIsNext(hind, fore);
            int mixing = hindMixes ? hind : fore;
            if (!isPure(far) || batchOf[far] != batchOf[mixing]) {
                return;
            }
            int hindKind = kindOf[hind];
            int foreKind = kindOf[fore];
            kindOf[mixing] = hindKind;
            foreOf[mixing] = foreKind;
            went[hindMixes ? fore : far] = 0;
        }

        boolean clashesAt(int measure, Tables tables) {
            int hind = neighbourToBegin(measure);
            int fore = neighbourToEnd(measure);
            if (!isPure(measure)) {
                return clash(hind, fore, tables);
            }
            return clash(hind, measure, tables) || clash(measure, fore, tables);
        }

        private boolean clash(int hind, int fore, Tables tables) {
            return hind != NONE && fore != NONE && !tables.mayFollow(kindOf[hind], kindOf[fore]);
        }
    }
}
