import java.util.Random;

/**
 * Calls with any arguments in any state: those at a bound, beside it and far off it, the same ones each time. None may
 * throw, and all answers are those of the Model.
 */
public final class WildTest {
    private static final int[] EDGES = {Integer.MIN_VALUE, Integer.MIN_VALUE + 1, -1000, -3, -2, -1, 0, 0, 0, 1, 1, 1,
        2, 2, 3, 4, 5, 6, 7, 8, 9, 10, 19, 20, 21, 23, 24, 59, 60, 61, 99, 100, 101, 119, 120, 121, 199, 200, 201, 999,
        1000, 1001, 9999, 10000, 10001, 99999, 100000, 100001, Integer.MAX_VALUE - 1, Integer.MAX_VALUE};
    private static final int CALLS = 512, CALLS_BEYOND = 20000;
    /** How often each answer came, by its negative; 0 stands for all that are no refusals. */
    private static final int[] ANSWERS = new int[14];

    private final Random random;
    private final OilLine x = new OilLine();
    private final Model model = new Model();
    private final boolean pushing;
    private String last = "";

    private WildTest(int seed, boolean pushing) {
        random = new Random(seed);
        this.pushing = pushing;
    }

    public static void main(String[] args) {
        longRuns();
        untilFull();
        farBeyond();
        Check.end();
    }

    private static void longRuns() {
        for (int seed = 0; seed < 300 && !Check.anyWrong(); seed++) {
            new WildTest(seed, false).run(CALLS);
        }
        for (int answer : new int[] {0, 1, 2, 3, 4, 11, 12, 13}) {
            Check.holds(-answer + " was answered " + ANSWERS[answer] + " times", ANSWERS[answer] > 20);
        }
    }

    /** Mostly PUSHES, so that runs come to 200 BATCHES and back. */
    private static void untilFull() {
        int full = 0;
        for (int seed = 0; seed < 40 && !Check.anyWrong(); seed++) {
            WildTest run = new WildTest(seed, true);
            run.prepare();
            run.run(CALLS - 20);
            full += run.model.count(2) == 200 ? 1 : 0;
        }
        Check.holds("200 BATCHES after " + full + " runs", full > 10);
    }

    /** What is answered here is free, but it is answered. */
    private static void farBeyond() {
        WildTest run = new WildTest(7, true);
        run.prepare();
        for (int i = 0; i < CALLS_BEYOND; i++) {
            run.call(run.random.nextInt(19));
        }
    }

    private void prepare() {
        x.line(9);
        model.line(9);
        for (int place : new int[] {0, 9, 4}) {
            x.door(place);
            model.door(place);
        }
        for (int kind = 0; kind < 4; kind++) {
            for (int door = 0; door < 3; door++) {
                x.tank(door, kind, 0, 10000, 4000);
                model.tank(door, kind, 0, 10000, 4000);
            }
            x.follow(kind, (kind + 1) % 4, 1, 1 + kind);
            model.follow(kind, (kind + 1) % 4, 1, 1 + kind);
        }
    }

    private void run(int calls) {
        for (int i = 0; i < calls && !Check.anyWrong(); i++) {
            int which = pushing && random.nextInt(16) != 0 ? 8 : random.nextInt(19);
            call(which == 0 && (pushing || random.nextInt(20) != 0) ? 1 : which);
        }
    }

    private int wild() {
        return EDGES[random.nextInt(EDGES.length)];
    }

    /** Seldom wild, for a call with one wild number in it answers but a refusal. */
    private int upTo(int most) {
        return random.nextInt(pushing ? 30 : 8) == 0 ? wild() : random.nextInt(most + 1);
    }

    private void call(int which) {
        int door = upTo(2);
        int other = upTo(2);
        int kind = upTo(3);
        int n = upTo(70);
        int what = upTo(9);
        switch (which) {
            case 0 -> same("line", n, 0, 0, 0, x.line(n), model.line(n));
            case 1 -> same("door", what, 0, 0, 0, x.door(what), model.door(what));
            case 2 -> tank(door, kind);
            case 3 -> {
                int may = upTo(1);
                same("follow", kind, what, may, n, x.follow(kind, what, may, n), model.follow(kind, what, may, n));
            }
            case 4 -> same("grace", kind, n, 0, 0, x.grace(kind, n), model.grace(kind, n));
            case 5 -> same("rate", door, n, 0, 0, x.rate(door, n), model.rate(door, n));
            case 6 -> same("price", what, n, 0, 0, x.price(what, n), model.price(what, n));
            case 7 -> same("wish", door, kind, n, what, x.wish(door, kind, n, what), model.wish(door, kind, n, what));
            case 8 -> push(door, other, kind);
            case 9 -> same("trial", door, other, kind, n, x.trial(door, other, kind, n),
                model.trial(door, other, kind, n));
            case 10 -> same("undo", 0, 0, 0, 0, x.undo(), model.undo());
            case 11 -> same("wait", n, 0, 0, 0, x.wait(n), model.pause(n));
            case 12 -> same("at", n, what, 0, 0, x.at(n, what), model.at(n, what));
            case 13 -> same("batch", n, what, 0, 0, x.batch(n, what), model.batch(n, what));
            case 14 -> same("tankOf", door, kind, what, 0, x.tankOf(door, kind, what), model.tankOf(door, kind, what));
            case 15 -> same("about", door, what, 0, 0, x.about(door, what), model.about(door, what));
            case 16 -> same("wished", what, other, 0, 0, x.wished(what, other), model.wished(what, other));
            case 17 -> same("count", what, 0, 0, 0, x.count(what), model.count(what));
            default -> same("borders", 0, 0, 0, 0, x.borders(), model.borders());
        }
    }

    private void tank(int door, int kind) {
        int least = upTo(5);
        int most = random.nextBoolean() ? wild() : upTo(200);
        int amount = upTo(120);
        same("tank", door, kind, least, most, x.tank(door, kind, least, most, amount),
            model.tank(door, kind, least, most, amount));
    }

    private void push(int door, int other, int kind) {
        int a = pushing && door == 1 ? 0 : door;
        int b = pushing && other == a ? 1 : other;
        int n = pushing ? upTo(3) : upTo(70);
        same("push", a, b, kind, n, x.push(a, b, kind, n), model.push(a, b, kind, n));
    }

    private void same(String call, int a, int b, int c, int d, int got, int want) {
        String told = call + "(" + a + ", " + b + ", " + c + ", " + d + ")";
        Check.due(told + " after " + last, got, want);
        ANSWERS[Math.max(0, -want)]++;
        last = told;
    }
}
