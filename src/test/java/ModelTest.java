import java.util.Random;

/** Long runs of calls, the same ones each time, on OilLine and on the Model: all answers must be alike. */
public final class ModelTest {
    private static final int RUNS = 1500, CALLS = 160;
    private static final String[] NAMES = {"line", "door", "tank", "follow", "grace", "rate", "price", "wish",
        "push", "trial", "undo", "wait"};

    private final Random random;
    private final OilLine x = new OilLine();
    private final Model model = new Model();
    private final StringBuilder told = new StringBuilder();
    private final int kinds;
    private int measures = 20;

    /** How often each answer of push() came, so that no refusal goes unseen. */
    private static final int[] PUSHES = new int[16];
    private static long mixedSeen = 0, foreignSeen = 0, keptSeen = 0;

    private ModelTest(int seed) {
        random = new Random(seed);
        kinds = 2 + random.nextInt(4);
    }

    public static void main(String[] args) {
        for (int seed = 0; seed < RUNS && !Check.anyWrong(); seed++) {
            new ModelTest(seed).run(seed);
        }
        for (int answer : new int[] {0, 1, 2, 11, 12, 13}) {
            Check.holds("push() answered " + -answer + " in no run", PUSHES[answer] > 50);
        }
        Check.holds("MIXED ones were seen", mixedSeen > 10000);
        Check.holds("FOREIGN ones were seen", foreignSeen > 1000);
        Check.holds("KEPT WISHES were seen", keptSeen > 1000);
        Check.end();
    }

    private void run(int seed) {
        prepare();
        for (int i = 0; i < CALLS && !Check.anyWrong(); i++) {
            call(choose());
            compare();
        }
        if (Check.anyWrong()) {
            System.out.println("seed " + seed + ":" + told);
        }
    }

    private void prepare() {
        measures = 4 + random.nextInt(random.nextInt(8) == 0 ? 117 : 16);
        answer("line(" + measures + ")", x.line(measures), model.line(measures));
        int doors = 2 + random.nextInt(4);
        for (int i = 0; i < doors; i++) {
            call(1);
        }
        for (int i = 0; i < doors * kinds; i++) {
            call(2);
        }
        for (int i = 0; i < kinds * 2; i++) {
            call(3);
            call(4);
        }
    }

    private int choose() {
        int dice = random.nextInt(100);
        if (dice < 55) return 8;
        if (dice < 65) return 9;
        if (dice < 75) return 10;
        if (dice < 76) return random.nextInt(8) == 0 ? 0 : 11;
        return 1 + random.nextInt(11);
    }

    /** Mostly 0 .. most, seldom somewhat beyond. */
    private int pick(int most) {
        return random.nextInt(40) == 0 ? random.nextInt(most + 4) - 2 : random.nextInt(most + 1);
    }

    private int kind() {
        return random.nextInt(60) == 0 ? random.nextInt(10) - 1 : random.nextInt(kinds);
    }

    private int aDoor() {
        return pick(Math.max(1, model.count(6)) - 1);
    }

    private void call(int which) {
        switch (which) {
            case 0 -> newLine();
            case 1 -> {
                int place = random.nextInt(3) == 0 ? random.nextBoolean() ? 0 : measures : pick(measures);
                answer("door(" + place + ")", x.door(place), model.door(place));
            }
            case 2 -> newTank();
            case 3 -> {
                int a = kind(), b = kind(), m = random.nextInt(6) == 0 ? pick(1) : 1;
                int n = random.nextInt(3) == 0 ? pick(200) : pick(4);
                answer("follow(" + a + ", " + b + ", " + m + ", " + n + ")", x.follow(a, b, m, n),
                    model.follow(a, b, m, n));
            }
            case 4 -> {
                int k = kind(), h = pick(100);
                answer("grace(" + k + ", " + h + ")", x.grace(k, h), model.grace(k, h));
            }
            case 5 -> {
                int d = aDoor(), r = pick(60);
                answer("rate(" + d + ", " + r + ")", x.rate(d, r), model.rate(d, r));
            }
            case 6 -> {
                int h = pick(23), p = pick(100);
                answer("price(" + h + ", " + p + ")", x.price(h, p), model.price(h, p));
            }
            case 7 -> {
                int d = aDoor(), k = kind(), n = pick(30), by = pick(200);
                answer("wish(" + d + ", " + k + ", " + n + ", " + by + ")", x.wish(d, k, n, by),
                    model.wish(d, k, n, by));
            }
            case 8, 9 -> pushOrTrial(which == 8);
            case 10 -> answer("undo()", x.undo(), model.undo());
            default -> {
                int h = pick(30);
                answer("wait(" + h + ")", x.wait(h), model.pause(h));
            }
        }
    }

    private void newLine() {
        int n = 4 + random.nextInt(20);
        answer("line(" + n + ")", x.line(n), model.line(n));
        measures = n;
        for (int i = 0; i < 3; i++) {
            call(1);
        }
        for (int i = 0; i < 10; i++) {
            call(2);
        }
    }

    private void newTank() {
        int d = aDoor(), k = kind();
        int most = random.nextInt(4) == 0 ? pick(40) : 200 + pick(9800);
        int least = random.nextInt(3) == 0 ? pick(Math.max(1, most)) : 0;
        int amount = random.nextInt(30) == 0 ? pick(most + 2)
            : random.nextInt(3) == 0 ? least : (least + most) / 2;
        answer("tank(" + d + ", " + k + ", " + least + ", " + most + ", " + amount + ")",
            x.tank(d, k, least, most, amount), model.tank(d, k, least, most, amount));
    }

    private void pushOrTrial(boolean isPush) {
        int a = aDoor(), b = aDoor();
        if (random.nextInt(20) != 0 && model.about(a, 0) > model.about(b, 0)) {
            int c = a;
            a = b;
            b = c;
        }
        int k = kind(), n = random.nextInt(5) == 0 ? pick(60) : 1 + pick(7);
        String args = "(" + a + ", " + b + ", " + k + ", " + n + ")";
        if (isPush) {
            int due = model.push(a, b, k, n);
            answer("push" + args, x.push(a, b, k, n), due);
            PUSHES[due >= 0 ? 0 : Math.min(15, -due)]++;
        } else {
            answer("trial" + args, x.trial(a, b, k, n), model.trial(a, b, k, n));
        }
    }

    private void answer(String call, int got, int want) {
        told.append(' ').append(call).append(" = ").append(want).append(';');
        Check.due(call, got, want);
    }

    private void compare() {
        for (int what = -1; what < 10; what++) {
            same("count", x.count(what), model.count(what), what, 0, 0);
        }
        same("borders", x.borders(), model.borders(), 0, 0, 0);
        for (int m = -1; m <= measures; m++) {
            for (int what = 0; what < 4; what++) {
                same("at", x.at(m, what), model.at(m, what), m, what, 0);
            }
        }
        for (int b = -1; b <= model.count(2); b++) {
            for (int what = 0; what < 6; what++) {
                same("batch", x.batch(b, what), model.batch(b, what), b, what, 0);
            }
        }
        for (int d = 0; d < model.count(6); d++) {
            same("about", x.about(d, 2), model.about(d, 2), d, 2, 0);
            for (int k = 0; k < kinds; k++) {
                for (int what = 0; what < 5; what++) {
                    same("tankOf", x.tankOf(d, k, what), model.tankOf(d, k, what), d, k, what);
                }
                foreignSeen += Math.max(0, model.tankOf(d, k, 1));
            }
        }
        for (int w = 0; w < 21; w++) {
            for (int what = 0; what < 3; what++) {
                same("wished", x.wished(w, what), model.wished(w, what), w, what, 0);
            }
            keptSeen += model.wished(w, 0) > 0 ? 1 : 0;
        }
        mixedSeen += model.count(3);
    }

    private static void same(String call, int got, int want, int a, int b, int c) {
        if (got != want) {
            Check.due(call + "(" + a + ", " + b + ", " + c + ")", got, want);
        }
    }
}
