import java.util.function.Supplier;

/**
 * Part 4: "REFUSALS, of several the first one told: NONE .. BAD .. STATE .. FULL. They change nothing." For each call
 * each number that it refuses first, on both sides; each pair of reasons that can come together; and that nothing
 * has changed then.
 */
public final class RefusalTest {
    private static final int NONE = OilLine.NONE, BAD = OilLine.BAD, STATE = OilLine.STATE, FULL = OilLine.FULL;
    private static final int MIN = Integer.MIN_VALUE, MAX = Integer.MAX_VALUE;

    public static void main(String[] args) {
        theStatesAreAsTold();
        line();
        door();
        doorFull();
        tankNone();
        tankBad();
        tankState();
        follow();
        grace();
        rate();
        price();
        wish();
        wishFull();
        pushNone();
        pushBad();
        pushRefusals();
        pushFull();
        trialRefusals();
        trialThatFits();
        undo();
        pause();
        lookingNone();
        lookingChangesNothing();
        Check.end();
    }

    private static void rich(String call, Twin.Call made, int due) {
        Twin.unchanged(call, Twin::rich, made, due);
    }

    private static void full(String call, Twin.Call made, int due) {
        Twin.unchanged(call, Twin::full, made, due);
    }

    /** If these were not so, a change could go unseen. */
    private static void theStatesAreAsTold() {
        OilLine x = Twin.rich();
        Check.due("rich: three PUSHES", x.count(8), 3);
        Check.holds("rich: MIXED", x.count(3) > 0);
        Check.holds("rich: SLOP", x.count(4) > 0);
        Check.holds("rich: FOREIGN", x.tankOf(1, 1, 1) > 0);
        Check.holds("rich: KEPT", x.wished(0, 0) > 0);
        Check.holds("rich: LATE", x.wished(0, 1) > 0);
        Check.due("rich: not KEPT", x.wished(1, 0), NONE);
        OilLine y = Twin.full();
        Check.due("full: DOORS", y.count(6), 6);
        Check.due("full: BATCHES", y.count(2), 200);
        Check.due("full: PUSHES", y.count(8), 199);
        Check.holds("full: WISHES", y.wished(19, 2) > 0);
    }

    private static void line() {
        for (int n : new int[] {MIN, -1, 0, 3, 121, MAX}) {
            rich("line(" + n + ")", x -> x.line(n), BAD);
        }
    }

    private static void door() {
        for (int place : new int[] {MIN, -1, 11, MAX}) {
            rich("door(" + place + ")", x -> x.door(place), BAD);
        }
        for (int place : new int[] {0, 5, 10}) {
            rich("door(" + place + ")", x -> x.door(place), STATE);
        }
    }

    /** Of six DOORS one is at each place but 1. */
    private static void doorFull() {
        full("door: FULL", x -> x.door(1), FULL);
        full("door: STATE ahead of FULL", x -> x.door(0), STATE);
        full("door: BAD ahead of FULL", x -> x.door(7), BAD);
        full("door: BAD ahead of FULL, below", x -> x.door(-1), BAD);
    }

    private static void tankNone() {
        for (int door : new int[] {MIN, -1, 3, MAX}) {
            rich("tank: DOOR " + door, x -> x.tank(door, 4, 0, 1, 0), NONE);
            rich("tank: DOOR ahead of BAD", x -> x.tank(door, 4, 2, 1, 0), NONE);
        }
        for (int kind : new int[] {MIN, -1, 8, MAX}) {
            rich("tank: KIND " + kind, x -> x.tank(0, kind, 0, 1, 0), NONE);
            rich("tank: KIND ahead of BAD", x -> x.tank(0, kind, 0, 10001, 0), NONE);
        }
    }

    private static void tankBad() {
        rich("tank: LEAST -1", x -> x.tank(0, 4, -1, 9, 5), BAD);
        rich("tank: LEAST far below", x -> x.tank(0, 4, MIN, 9, 5), BAD);
        rich("tank: LEAST above MOST", x -> x.tank(0, 4, 6, 5, 5), BAD);
        rich("tank: LEAST above MOST, amount is LEAST", x -> x.tank(0, 4, 6, 5, 6), BAD);
        rich("tank: MOST 10001", x -> x.tank(0, 4, 0, 10001, 5), BAD);
        rich("tank: MOST far above", x -> x.tank(0, 4, 0, MAX, 5), BAD);
        rich("tank: MOST -1", x -> x.tank(0, 4, -1, -1, -1), BAD);
        rich("tank: all 10001", x -> x.tank(0, 4, 10001, 10001, 10001), BAD);
        rich("tank: amount below LEAST", x -> x.tank(0, 4, 5, 9, 4), BAD);
        rich("tank: amount above MOST", x -> x.tank(0, 4, 5, 9, 10), BAD);
        rich("tank: amount -1", x -> x.tank(0, 4, 0, 9, -1), BAD);
        rich("tank: amount far above", x -> x.tank(0, 4, 0, 9, MAX), BAD);
        rich("tank: amount far below", x -> x.tank(0, 4, 0, 9, MIN), BAD);
    }

    private static void tankState() {
        rich("tank: it has one", x -> x.tank(0, 3, 1, 2, 1), STATE);
        rich("tank: it has just such a one", x -> x.tank(0, 3, 50, 100, 52), STATE);
        rich("tank: BAD ahead of STATE, LEAST", x -> x.tank(0, 3, -1, 2, 1), BAD);
        rich("tank: BAD ahead of STATE, MOST", x -> x.tank(0, 3, 1, 10001, 1), BAD);
        rich("tank: BAD ahead of STATE, amount", x -> x.tank(0, 3, 1, 2, 3), BAD);
    }

    private static void follow() {
        for (int kind : new int[] {MIN, -1, 8, MAX}) {
            rich("follow: x " + kind, x -> x.follow(kind, 0, 0, 1), NONE);
            rich("follow: y " + kind, x -> x.follow(0, kind, 0, 1), NONE);
            rich("follow: x ahead of BAD", x -> x.follow(kind, 0, 2, 1), NONE);
            rich("follow: y ahead of BAD", x -> x.follow(0, kind, 0, 201), NONE);
            rich("follow: NONE ahead of STATE", x -> x.follow(kind, kind, 0, 1), NONE);
        }
        for (int may : new int[] {MIN, -1, 2, MAX}) {
            rich("follow: may " + may, x -> x.follow(1, 0, may, 2), BAD);
            rich("follow: may of its like", x -> x.follow(1, 1, may, 2), BAD);
        }
        for (int mix : new int[] {MIN, -1, 201, MAX}) {
            rich("follow: mix " + mix, x -> x.follow(1, 0, 0, mix), BAD);
            rich("follow: BAD ahead of STATE", x -> x.follow(1, 1, 0, mix), BAD);
        }
        for (int kind = 0; kind < 8; kind++) {
            int its = kind;
            rich("follow: STATE", x -> x.follow(its, its, 0, 1), STATE);
        }
    }

    private static void grace() {
        for (int kind : new int[] {MIN, -1, 8, MAX}) {
            rich("grace: KIND " + kind, x -> x.grace(kind, 5), NONE);
            rich("grace: NONE ahead of BAD", x -> x.grace(kind, 101), NONE);
        }
        for (int hundredths : new int[] {MIN, -1, 101, MAX}) {
            rich("grace: " + hundredths, x -> x.grace(1, hundredths), BAD);
        }
    }

    private static void rate() {
        for (int door : new int[] {MIN, -1, 3, MAX}) {
            rich("rate: DOOR " + door, x -> x.rate(door, 5), NONE);
            rich("rate: NONE ahead of BAD", x -> x.rate(door, 0), NONE);
        }
        for (int r : new int[] {MIN, -1, 0, 61, MAX}) {
            rich("rate: " + r, x -> x.rate(0, r), BAD);
        }
    }

    private static void price() {
        for (int hour : new int[] {MIN, -1, 24, MAX}) {
            rich("price: hour " + hour, x -> x.price(hour, 5), NONE);
            rich("price: NONE ahead of BAD", x -> x.price(hour, 101), NONE);
        }
        for (int p : new int[] {MIN, -1, 101, MAX}) {
            rich("price: " + p, x -> x.price(6, p), BAD);
        }
    }

    private static void wish() {
        for (int door : new int[] {MIN, -1, 3, MAX}) {
            rich("wish: DOOR " + door, x -> x.wish(door, 1, 1, 1), NONE);
        }
        for (int kind : new int[] {MIN, -1, 8, MAX}) {
            rich("wish: KIND " + kind, x -> x.wish(1, kind, 1, 1), NONE);
        }
        rich("wish: no such TANK", x -> x.wish(1, 2, 1, 1), NONE);
        rich("wish: a TANK for it at another DOOR alone", x -> x.wish(2, 0, 1, 1), NONE);
        rich("wish: NONE ahead of BAD, n", x -> x.wish(3, 1, 0, 1), NONE);
        rich("wish: NONE ahead of BAD, by", x -> x.wish(1, 8, 1, -1), NONE);
        rich("wish: no TANK ahead of BAD", x -> x.wish(1, 2, 1001, 1), NONE);
        for (int n : new int[] {MIN, -1, 0, 1001, MAX}) {
            rich("wish: n " + n, x -> x.wish(1, 1, n, 1), BAD);
        }
        for (int by : new int[] {MIN, -1, 100001, MAX}) {
            rich("wish: by " + by, x -> x.wish(1, 1, 1, by), BAD);
        }
    }

    private static void wishFull() {
        full("wish: FULL", x -> x.wish(5, 1, 1, 1), FULL);
        full("wish: BAD ahead of FULL, n", x -> x.wish(5, 1, 0, 1), BAD);
        full("wish: BAD ahead of FULL, by", x -> x.wish(5, 1, 1, 100001), BAD);
        full("wish: NONE ahead of FULL, DOOR", x -> x.wish(6, 1, 1, 1), NONE);
        full("wish: NONE ahead of FULL, KIND", x -> x.wish(5, 8, 1, 1), NONE);
        full("wish: NONE ahead of FULL, TANK", x -> x.wish(5, 2, 1, 1), NONE);
    }

    private static void pushNone() {
        for (int door : new int[] {MIN, -1, 3, MAX}) {
            rich("push: a " + door, x -> x.push(door, 1, 1, 1), NONE);
            rich("push: b " + door, x -> x.push(0, door, 1, 1), NONE);
            rich("push: a and b " + door, x -> x.push(door, door, 1, 1), NONE);
            rich("push: a ahead of BAD", x -> x.push(door, 1, 1, 61), NONE);
            rich("push: b ahead of BAD", x -> x.push(1, door, 1, 0), NONE);
        }
        for (int kind : new int[] {MIN, -1, 8, MAX}) {
            rich("push: KIND " + kind, x -> x.push(0, 1, kind, 1), NONE);
            rich("push: KIND ahead of BAD, n", x -> x.push(0, 1, kind, 0), NONE);
            rich("push: KIND ahead of BAD, places", x -> x.push(1, 0, kind, 1), NONE);
        }
    }

    private static void pushBad() {
        for (int n : new int[] {MIN, -1, 0, 61, MAX}) {
            rich("push: n " + n, x -> x.push(0, 1, 1, n), BAD);
            rich("push: n ahead of refusal 1", x -> x.push(0, 1, 7, n), BAD);
            rich("push: n ahead of refusal 3", x -> x.push(0, 1, 3, n), BAD);
        }
        rich("push: back", x -> x.push(1, 0, 1, 1), BAD);
        rich("push: back, to a DOOR of a greater number", x -> x.push(1, 2, 1, 1), BAD);
        rich("push: to itself", x -> x.push(0, 0, 1, 1), BAD);
        rich("push: to itself at the end", x -> x.push(1, 1, 1, 1), BAD);
        rich("push: back, ahead of refusal 1", x -> x.push(1, 0, 7, 1), BAD);
    }

    /** DOOR 0 has 2 of KIND 3 above LEAST; 3 may not be behind 2, that lies at the begin. */
    private static void pushRefusals() {
        rich("push: 1, no TANK", x -> x.push(0, 1, 7, 1), -11);
        rich("push: 1, LEAST, at a late step", x -> x.push(0, 1, 2, 60), -11);
        rich("push: 3, at the first step", x -> x.push(0, 1, 3, 1), -13);
        rich("push: 3, of several steps", x -> x.push(0, 1, 3, 60), -13);
        Twin.unchanged("push: 1, at the third step", RefusalTest::richWithWay, x -> x.push(0, 1, 3, 3), -11);
        Twin.unchanged("push: 2, at a late step", RefusalTest::nearlyFullSink, x -> x.push(0, 1, 1, 4), -12);
        Twin.unchanged("push: 3, at a late step", RefusalTest::lateClash, x -> x.push(0, 2, 2, 4), -13);
    }

    private static OilLine richWithWay() {
        OilLine x = Twin.rich();
        x.follow(3, 2, 1, 1);
        x.push(0, 2, 2, 1);
        return x;
    }

    /** Three can come OUT at DOOR 1, after two that are MIXED and FOREIGN there. */
    private static OilLine nearlyFullSink() {
        OilLine x = Lines.bare(6);
        x.tank(1, 0, 0, 10, 5);
        x.follow(1, 0, 1, 1);
        x.grace(0, 100);
        x.wish(1, 0, 4, 0);
        x.push(0, 1, 1, 2);
        return x;
    }

    /** KIND 2 may be behind 1, but not behind 0, that lies beyond DOOR 2. */
    private static OilLine lateClash() {
        OilLine x = Lines.bare(8);
        x.door(4);
        x.follow(2, 0, 0, 0);
        x.follow(2, 1, 1, 1);
        x.follow(1, 0, 1, 2);
        x.push(0, 2, 1, 3);
        x.push(0, 2, 1, 1);
        return x;
    }

    /** In this state the PUSH of KIND 7 meets refusal 1, too. */
    private static void pushFull() {
        full("push: FULL", x -> x.push(0, 5, 1, 1), FULL);
        full("push: FULL, refusal 1", x -> x.push(0, 5, 7, 1), FULL);
        full("push: BAD ahead of FULL, n", x -> x.push(0, 5, 1, 61), BAD);
        full("push: BAD ahead of FULL, n 0", x -> x.push(0, 5, 1, 0), BAD);
        full("push: BAD ahead of FULL, places", x -> x.push(5, 0, 1, 1), BAD);
        full("push: NONE ahead of FULL, a", x -> x.push(6, 5, 1, 1), NONE);
        full("push: NONE ahead of FULL, b", x -> x.push(0, 6, 1, 1), NONE);
        full("push: NONE ahead of FULL, KIND", x -> x.push(0, 5, 8, 1), NONE);
        full("trial: FULL", x -> x.trial(0, 5, 1, 1), FULL);
    }

    private static void trialRefusals() {
        rich("trial: a", x -> x.trial(3, 1, 1, 1), NONE);
        rich("trial: b", x -> x.trial(0, -1, 1, 1), NONE);
        rich("trial: KIND", x -> x.trial(0, 1, 8, 1), NONE);
        rich("trial: NONE ahead of BAD", x -> x.trial(0, 1, 8, 0), NONE);
        rich("trial: n 0", x -> x.trial(0, 1, 1, 0), BAD);
        rich("trial: n 61", x -> x.trial(0, 1, 1, 61), BAD);
        rich("trial: back", x -> x.trial(1, 0, 1, 1), BAD);
        rich("trial: 1", x -> x.trial(0, 1, 7, 1), -11);
        rich("trial: 3", x -> x.trial(0, 1, 3, 1), -13);
        Twin.unchanged("trial: 2", RefusalTest::nearlyFullSink, x -> x.trial(0, 1, 1, 4), -12);
        Twin.unchanged("trial: 3, late", RefusalTest::lateClash, x -> x.trial(0, 2, 2, 4), -13);
    }

    private static void trialThatFits() {
        rich("trial: fits", x -> x.trial(0, 1, 1, 30), 4);
        rich("trial: fits to DOOR 2", x -> x.trial(0, 2, 1, 2), 4);
        rich("trial: twice", x -> x.trial(0, 1, 1, 30) + x.trial(0, 1, 2, 1), 8);
        Twin.unchanged("trial: 2, not yet", RefusalTest::nearlyFullSink, x -> x.trial(0, 1, 1, 3), 2);
        Twin.unchanged("trial: the 200th BATCH", RefusalTest::oneBatchLeft, x -> x.trial(0, 5, 1, 60), 199);
        Twin.unchanged("trial: of a new one", OilLine::new, x -> x.trial(0, 1, 1, 1), NONE);
    }

    private static OilLine oneBatchLeft() {
        OilLine x = Twin.full();
        x.undo();
        return x;
    }

    private static void undo() {
        Twin.unchanged("undo: a new object", OilLine::new, OilLine::undo, STATE);
        Supplier<OilLine> ended = () -> {
            OilLine x = Twin.rich();
            x.wait(1);
            return x;
        };
        Twin.unchanged("undo: ended", ended, OilLine::undo, STATE);
        Supplier<OilLine> takenBack = () -> {
            OilLine x = Twin.rich();
            x.undo();
            x.undo();
            x.undo();
            return x;
        };
        Twin.unchanged("undo: all are taken back", takenBack, OilLine::undo, STATE);
    }

    private static void pause() {
        for (int hours : new int[] {MIN, -1, 1001, MAX}) {
            rich("wait(" + hours + ")", x -> x.wait(hours), BAD);
        }
    }

    /** "NONE there is no such .. MEASURE, BATCH, WISH, what". */
    private static void lookingNone() {
        for (int wild : new int[] {MIN, -1, MAX}) {
            rich("at: MEASURE " + wild, x -> x.at(wild, 0), NONE);
            rich("batch: BATCH " + wild, x -> x.batch(wild, 0), NONE);
            rich("tankOf: DOOR " + wild, x -> x.tankOf(wild, 1, 0), NONE);
            rich("tankOf: KIND " + wild, x -> x.tankOf(1, wild, 0), NONE);
            rich("about: DOOR " + wild, x -> x.about(wild, 0), NONE);
            rich("wished: WISH " + wild, x -> x.wished(wild, 1), NONE);
            rich("at: what " + wild, x -> x.at(0, wild), NONE);
            rich("batch: what " + wild, x -> x.batch(0, wild), NONE);
            rich("tankOf: what " + wild, x -> x.tankOf(1, 1, wild), NONE);
            rich("about: what " + wild, x -> x.about(0, wild), NONE);
            rich("wished: what " + wild, x -> x.wished(0, wild), NONE);
            rich("count: what " + wild, x -> x.count(wild), NONE);
        }
        rich("at: MEASURE 10", x -> x.at(10, 0), NONE);
        rich("batch: BATCH 4", x -> x.batch(4, 0), NONE);
        rich("tankOf: DOOR 3", x -> x.tankOf(3, 1, 0), NONE);
        rich("tankOf: KIND 8", x -> x.tankOf(1, 8, 0), NONE);
        rich("tankOf: TANK", x -> x.tankOf(1, 2, 0), NONE);
        rich("about: DOOR 3", x -> x.about(3, 0), NONE);
        rich("wished: WISH 2", x -> x.wished(2, 1), NONE);
        rich("at: what 4", x -> x.at(0, 4), NONE);
        rich("batch: what 6", x -> x.batch(0, 6), NONE);
        rich("tankOf: what 5", x -> x.tankOf(1, 1, 5), NONE);
        rich("about: what 3", x -> x.about(0, 3), NONE);
        rich("wished: what 3", x -> x.wished(0, 3), NONE);
        rich("count: what 9", x -> x.count(9), NONE);
    }

    private static void lookingChangesNothing() {
        rich("looking", x -> Twin.all(x).equals(Twin.all(x)) ? 1 : 0, 1);
        full("looking at all that may be", x -> Twin.all(x).equals(Twin.all(x)) ? 1 : 0, 1);
    }
}
