import java.util.Random;

/**
 * What must be so in every run of calls, whatever it is, by the first sentence of the document: as much comes out as
 * is pushed in, no tank runs over or dry, each measure is of one batch, trial() tells what push() answers. The runs
 * are made up, the same ones each time; nothing here knows how a STEP goes.
 */
public final class BalanceTest {
    private static final int RUNS = 400, PUSHES = 40, KINDS = 8;
    private static final int NONE = OilLine.NONE;

    /** One made-up LINE and the PUSHES for it. */
    private static final class Run {
        final Random random;
        final OilLine x = new OilLine();
        final int kinds;
        int a, b, kind, n;

        Run(int seed) {
            random = new Random(seed);
            kinds = 2 + random.nextInt(3);
            int measures = 4 + random.nextInt(seed % 10 == 0 ? 117 : 13);
            x.line(measures);
            x.door(0);
            x.door(measures);
            while (x.count(6) < 2 + random.nextInt(4)) {
                x.door(random.nextInt(measures + 1));
            }
            for (int d = 0; d < x.count(6); d++) {
                for (int k = 0; k < kinds; k++) {
                    if (random.nextInt(4) != 0) {
                        int least = random.nextInt(5);
                        int most = least + 20 + random.nextInt(200);
                        x.tank(d, k, least, most, least + random.nextInt(most - least + 1));
                    }
                }
            }
            for (int hind = 0; hind < kinds; hind++) {
                x.grace(hind, random.nextInt(101));
                for (int fore = 0; fore < kinds; fore++) {
                    x.follow(hind, fore, hind == fore || random.nextInt(5) != 0 ? 1 : 0, random.nextInt(4));
                }
            }
        }

        void choose() {
            do {
                a = random.nextInt(x.count(6));
                b = random.nextInt(x.count(6));
            } while (x.about(a, 0) >= x.about(b, 0));
            kind = random.nextInt(kinds);
            n = 1 + random.nextInt(random.nextInt(6) == 0 ? 60 : 6);
        }

        int push() {
            return x.push(a, b, kind, n);
        }

        /** The amounts of the DOOR's TANKS for all KINDS together; 'what' as in tankOf(). */
        int ofTanks(int door, int what) {
            int sum = 0;
            for (int k = 0; k < KINDS; k++) {
                sum += Math.max(0, x.tankOf(door, k, what));
            }
            return sum;
        }
    }

    private interface Law {
        void lookAt(Run run);
    }

    public static void main(String[] args) {
        asMuchOutAsIn();
        noTankRunsOverOrDry();
        eachMeasureIsOfOneBatch();
        nothingElseMoves();
        trialTellsWhatPushAnswers();
        undoBringsEachBack();
        Check.end();
    }

    private static void eachPush(Law law) {
        for (int seed = 0; seed < RUNS && !Check.anyWrong(); seed++) {
            Run run = new Run(seed);
            for (int i = 0; i < PUSHES; i++) {
                run.choose();
                law.lookAt(run);
            }
            if (Check.anyWrong()) {
                System.out.println("in run " + seed);
            }
        }
    }

    private static void asMuchOutAsIn() {
        int[] went = new int[1];
        eachPush(run -> {
            int in = run.ofTanks(run.a, 0);
            int out = run.ofTanks(run.b, 0);
            int came = run.ofTanks(run.b, 4);
            int slop = run.x.about(run.b, 2);
            int slopOfAll = run.x.count(4);
            int n = run.push() < 0 ? 0 : run.n;
            went[0] += n;
            int more = run.ofTanks(run.b, 0) - out;
            Check.due("in at a", in - run.ofTanks(run.a, 0), n);
            Check.due("out at b, TANKS and SLOP", more + run.x.about(run.b, 2) - slop, n);
            Check.due("came is what the TANKS have more", run.ofTanks(run.b, 4) - came, more);
            Check.due("SLOP is b's alone", run.x.count(4) - slopOfAll, run.x.about(run.b, 2) - slop);
        });
        Check.holds("enough went: " + went[0], went[0] > 10000);
    }

    private static void noTankRunsOverOrDry() {
        int[] foreign = new int[1];
        eachPush(run -> {
            run.push();
            for (int d = 0; d < run.x.count(6); d++) {
                for (int k = 0; k < KINDS; k++) {
                    int amount = run.x.tankOf(d, k, 0);
                    if (amount == NONE) {
                        continue;
                    }
                    int least = run.x.tankOf(d, k, 2);
                    int most = run.x.tankOf(d, k, 3);
                    int its = run.x.tankOf(d, k, 1);
                    foreign[0] += its;
                    Check.holds("LEAST <= amount <= MOST", least <= amount && amount <= most);
                    Check.holds("0 <= FOREIGN <= amount", 0 <= its && its <= amount);
                    Check.holds("FOREIGN <= what came", its <= run.x.tankOf(d, k, 4));
                }
            }
        });
        Check.holds("FOREIGN ones were there: " + foreign[0], foreign[0] > 1000);
    }

    private static void eachMeasureIsOfOneBatch() {
        int[] mixed = new int[1];
        eachPush(run -> {
            run.push();
            int seen = 0;
            for (int m = 0; m < run.x.count(5); m++) {
                seen += measureIsOfItsBatch(run.x, m) ? 1 : 0;
            }
            mixed[0] += seen;
            Check.due("19: MIXED ones", run.x.count(3), seen);
            batchesMakeTheLine(run.x);
        });
        Check.holds("MIXED ones were there: " + mixed[0], mixed[0] > 10000);
    }

    private static boolean measureIsOfItsBatch(OilLine x, int measure) {
        int batch = x.at(measure, 0);
        int kind = x.at(measure, 1);
        int fore = x.at(measure, 2);
        Check.holds("a BATCH that is there", 0 <= batch && batch < x.count(2));
        int its = x.batch(batch, 0);
        if (fore == NONE) {
            Check.due("PURE: the KIND of its BATCH", kind, its);
        } else {
            Check.holds("MIXED: two KINDS", fore != kind);
            Check.holds("MIXED: one is that of its BATCH", its == kind || its == fore);
            Check.due("MIXED: no BORDER's", x.at(measure, 3), 0);
        }
        return fore != NONE;
    }

    private static void batchesMakeTheLine(OilLine x) {
        int there = 0;
        int out = 0;
        for (int b = 0; b < x.count(2); b++) {
            int its = x.batch(b, 1);
            there += its;
            out += x.batch(b, 4);
            Check.holds("15: least", its == 0 ? x.batch(b, 2) == NONE : x.at(x.batch(b, 2), 0) == b);
            Check.holds("15: greatest", its == 0 ? x.batch(b, 3) == NONE : x.at(x.batch(b, 3), 0) == b);
            Check.holds("15: so many lie between", its <= x.batch(b, 3) - x.batch(b, 2) + 1);
        }
        int cameAndSlop = x.count(4);
        for (int d = 0; d < x.count(6); d++) {
            for (int k = 0; k < KINDS; k++) {
                cameAndSlop += Math.max(0, x.tankOf(d, k, 4));
            }
        }
        Check.due("all BATCHES together", there, x.count(5));
        Check.due("OUT of all BATCHES", out, cameAndSlop);
    }

    private static void nothingElseMoves() {
        eachPush(run -> {
            String begin = measures(run.x, 0, run.x.about(run.a, 0));
            String end = measures(run.x, run.x.about(run.b, 0), run.x.count(5));
            run.push();
            Check.holds("in front of a's place", begin.equals(measures(run.x, 0, run.x.about(run.a, 0))));
            Check.holds("from b's place on",
                end.equals(measures(run.x, run.x.about(run.b, 0), run.x.count(5))));
        });
    }

    /** Without what they WENT: of the one at b's place that is told anew when its NEIGHBOUR is another. */
    private static String measures(OilLine x, int from, int to) {
        StringBuilder text = new StringBuilder();
        for (int m = from; m < to; m++) {
            text.append(x.at(m, 0)).append(' ').append(x.at(m, 1)).append(' ').append(x.at(m, 2)).append(';');
        }
        return text.toString();
    }

    private static void trialTellsWhatPushAnswers() {
        int[] seen = new int[4];
        eachPush(run -> {
            String ahead = Twin.all(run.x);
            int told = run.x.trial(run.a, run.b, run.kind, run.n);
            Check.holds("11: nothing changes", ahead.equals(Twin.all(run.x)));
            int answer = run.push();
            Check.due("11: what push() answers", told, answer);
            Check.holds("10: refused, nothing is done", answer >= 0 || ahead.equals(Twin.all(run.x)));
            seen[answer >= 0 ? 0 : -10 - answer]++;
        });
        for (int answer = 0; answer < 4; answer++) {
            Check.holds("answer " + answer + " came " + seen[answer] + " times", seen[answer] > 100);
        }
    }

    private static void undoBringsEachBack() {
        eachPush(run -> {
            String ahead = Twin.all(run.x);
            int batch = run.push();
            if (batch < 0) {
                return;
            }
            String then = Twin.all(run.x);
            Check.due("12: its BATCH", run.x.undo(), batch);
            Check.holds("12: as it was", ahead.equals(Twin.all(run.x)));
            Check.due("10: the same again", run.push(), batch);
            Check.holds("10: as it was then", then.equals(Twin.all(run.x)));
        });
    }
}
