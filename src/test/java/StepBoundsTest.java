/**
 * Part 2, with promises 10 and 11: for each sentence that names a bound of a PUSH, its STEPS, what mixes, what comes
 * OUT and what refuses it, the last that is so and the first that is not, on both sides.
 */
public final class StepBoundsTest {
    private static final int NONE = OilLine.NONE, BAD = OilLine.BAD;

    public static void main(String[] args) {
        howMany();
        greaterPlace();
        onlyWhatLiesBetween();
        oneMeasureBetween();
        newOneWentNothing();
        foreignIsNoMoreThanAmount();
        bothLieBetween();
        mixNothingDoesNotGo();
        oneStepLessThanMix();
        wentMoreThanMix();
        evenAndOdd();
        farSideOfAnotherBatch();
        farSideMixed();
        farSideBeyondB();
        farSideInFrontOfB();
        foreOneWentNothing();
        anotherForeOneWentNothing();
        yKeepsIt();
        fromTheEndOn();
        outPure();
        graceOfMixed();
        graceOfMoreThanOne();
        hindElseFore();
        sourceLeast();
        sinkMost();
        sinkMostOfMixed();
        sinkMostOfForeIsNotAskedForHind();
        lookedAtFromA();
        lookedAtFromB();
        lookedAtBehindTheStep();
        lookedAtFromMixed();
        lookedAtFromMixedAmongOthers();
        lookedAtAfterMixing();
        lookedAtNowhereElse();
        firstRefusalOfAStep();
        firstStepOfRefusals();
        Check.end();
    }

    /** "A PUSH of n MEASURES (1 .. 60)"; promise 10: "BAD: .. n". */
    private static void howMany() {
        OilLine x = Lines.two(6);
        Check.due("10: 0", x.push(0, 1, 1, 0), BAD);
        Check.due("11: 0", x.trial(0, 1, 1, 0), BAD);
        Check.due("10: 61", x.push(0, 1, 1, 61), BAD);
        Check.due("11: 61", x.trial(0, 1, 1, 61), BAD);
        Check.due("10: -1", x.push(0, 1, 1, -1), BAD);
        Check.due("11: 1", x.trial(0, 1, 1, 1), 1);
        Check.due("10: 1", x.push(0, 1, 1, 1), 1);
        Lines.looks("10: 1", x, "100000");
        Check.due("11: 60", x.trial(0, 1, 2, 60), 2);
        Check.due("10: 60", x.push(0, 1, 2, 60), 2);
        Check.due("16: 60 were taken", x.tankOf(0, 2, 0), 440);
        Check.due("16: 54 came OUT", x.tankOf(1, 2, 4), 54);
        Check.due("15: 54 went OUT", x.batch(2, 4), 54);
    }

    /** "from DOOR a to DOOR b with a greater place"; promise 10: "BAD: b's place is not above a's". */
    private static void greaterPlace() {
        OilLine x = Lines.doors(8, 5, 0, 8, 4);
        int[] places = {5, 0, 8, 4};
        for (int a = 0; a < 4; a++) {
            for (int b = 0; b < 4; b++) {
                int due = places[b] > places[a] ? 1 : BAD;
                Check.due("11: from " + places[a] + " to " + places[b], x.trial(a, b, 1, 1), due);
                Check.due("10: from " + places[a] + " to " + places[b], x.push(a, b, 1, 1), due);
                x.undo();
            }
        }
    }

    /** "the last MEASURE in front of b's place goes OUT; all others from a's place on to there move one on". */
    private static void onlyWhatLiesBetween() {
        OilLine x = Lines.doors(8, 0, 8, 2, 5);
        for (int k = 1; k <= 7; k++) {
            x.push(0, 1, k, 1);
        }
        Lines.looks("10", x, "76543210");
        Check.due("10: from 2 to 5", x.push(2, 3, 0, 1), 8);
        Lines.looks("10: one step", x, "76054210");
        Check.due("16: MEASURE 4", x.tankOf(3, 3, 4), 1);
        x.push(2, 3, 0, 1);
        Lines.looks("10: two steps", x, "76005210");
        Check.due("16: then what lay in 3", x.tankOf(3, 4, 4), 1);
        Check.due("16: out of a's TANK for the KIND", x.tankOf(2, 0, 0), 498);
        Check.due("16: not for another", x.tankOf(2, 3, 0), 500);
        Check.due("16: not into that of another DOOR", x.tankOf(1, 3, 4), 0);
    }

    /** The least way there is: what comes in one STEP goes OUT in the next. */
    private static void oneMeasureBetween() {
        OilLine x = Lines.doors(8, 3, 4);
        x.follow(1, 0, 1, 1);
        x.follow(0, 1, 1, 1);
        Check.due("10: 60 of them", x.push(0, 1, 1, 60), 1);
        Lines.looks("10: one is left", x, "00010000");
        Check.due("16: a's", x.tankOf(0, 1, 0), 440);
        Check.due("16: one of KIND 0", x.tankOf(1, 0, 4), 1);
        Check.due("16: 59 of KIND 1", x.tankOf(1, 1, 4), 59);
        Check.due("15: OUT", x.batch(1, 4), 59);
        Check.due("15: there", x.batch(1, 1), 1);
        Check.due("15: the least", x.batch(1, 2), 3);
        Check.due("15: the greatest", x.batch(1, 3), 3);
        Check.due("14: no BORDER goes here", x.at(4, 3), 0);
        Check.due("14: nor here", x.at(3, 3), 0);
        Check.due("20: both are BORDERS", x.borders(), 2);
        OilLine y = Lines.doors(4, 3, 4);
        y.push(0, 1, 1, 2);
        Lines.looks("10: the last MEASURE", y, "0001");
        OilLine z = Lines.doors(4, 0, 1);
        z.push(0, 1, 1, 2);
        Lines.looks("10: the first MEASURE", z, "1000");
    }

    /** "a MEASURE of the BATCH, PURE, that WENT 0, comes to a's place", where a MIXED one or one that WENT lay. */
    private static void newOneWentNothing() {
        OilLine x = Lines.doors(8, 0, 8, 3);
        x.follow(1, 0, 1, 9);
        x.push(0, 1, 1, 3);
        Check.due("14: it WENT 3", x.at(3, 3), 3);
        x.push(2, 1, 2, 1);
        Lines.looks("10", x, "11120000");
        Check.due("14: the new one WENT 0", x.at(3, 3), 0);
        Check.due("14: the other keeps it", x.at(4, 3), 3);
        OilLine y = Lines.doors(8, 0, 8, 2);
        y.follow(1, 0, 1, 2);
        y.push(0, 1, 1, 3);
        Lines.looks("10", y, "11(10)00000");
        y.push(2, 1, 1, 1);
        Lines.looks("10: PURE where a MIXED one lay", y, "111(10)(10)000");
        Check.due("14: its FORE KIND", y.at(2, 2), NONE);
    }

    /** "1 is taken out of a's TANK for the KIND (FOREIGN is no more than its amount then)". */
    private static void foreignIsNoMoreThanAmount() {
        OilLine x = withForeign(0);
        Check.due("16: amount", x.tankOf(2, 1, 0), 2);
        Check.due("16: all FOREIGN", x.tankOf(2, 1, 1), 2);
        x.push(2, 1, 1, 1);
        Check.due("16: amount 1", x.tankOf(2, 1, 0), 1);
        Check.due("16: FOREIGN is 1, too", x.tankOf(2, 1, 1), 1);
        x.push(2, 1, 1, 1);
        Check.due("16: amount 0", x.tankOf(2, 1, 0), 0);
        Check.due("16: FOREIGN is 0, too", x.tankOf(2, 1, 1), 0);
        Check.due("16: what came stays", x.tankOf(2, 1, 4), 2);
        OilLine y = withForeign(1);
        Check.due("16: 2 of 3 are FOREIGN", y.tankOf(2, 1, 0), 3);
        y.push(2, 1, 1, 1);
        Check.due("16: amount 2", y.tankOf(2, 1, 0), 2);
        Check.due("16: as many FOREIGN", y.tankOf(2, 1, 1), 2);
        y.push(2, 1, 1, 1);
        Check.due("16: one less", y.tankOf(2, 1, 1), 1);
    }

    /** DOOR 2 at place 6 of 12, whose TANK for KIND 1 had so much ahead of two FOREIGN ones. */
    private static OilLine withForeign(int amount) {
        OilLine x = Lines.bare(12);
        x.door(6);
        x.tank(2, 1, 0, 99, amount);
        x.follow(1, 0, 1, 1);
        x.push(0, 2, 1, 3);
        x.follow(1, 0, 1, 0);
        x.grace(1, 100);
        x.push(0, 2, 1, 4);
        Lines.looks("10", x, "111111000000");
        return x;
    }

    /** "each BORDER of which both PURE ones lie from a's place on to in front of b's". */
    private static void bothLieBetween() {
        OilLine x = Lines.doors(8, 0, 8, 3, 5);
        x.follow(1, 0, 1, 9);
        x.push(0, 1, 1, 1);
        Check.due("10: x at a's place", x.at(1, 3), 1);
        x.push(0, 1, 1, 2);
        x.push(2, 1, 0, 1);
        Lines.looks("10", x, "11100000");
        Check.due("10: x in front of a's place", x.at(3, 3), 0);
        OilLine y = Lines.doors(8, 0, 8, 3, 5);
        y.follow(1, 0, 1, 9);
        y.push(0, 3, 1, 4);
        Check.due("10: y in front of b's place", y.at(4, 3), 4);
        y.push(0, 3, 1, 1);
        Lines.looks("10", y, "11111000");
        Check.due("10: y at b's place", y.at(5, 3), 0);
        y.push(0, 3, 1, 2);
        Check.due("10: y is there still", y.at(5, 3), 0);
        y.push(0, 1, 1, 1);
        Check.due("10: y with both", y.at(6, 3), 1);
    }

    /** "that MIXES (MIX of x and y is not 0)"; what it WENT stays then, and goes on from there. */
    private static void mixNothingDoesNotGo() {
        OilLine x = Lines.two(8);
        x.follow(1, 0, 1, 9);
        x.push(0, 1, 1, 3);
        Check.due("14: it WENT 3", x.at(3, 3), 3);
        x.follow(1, 0, 1, 0);
        x.push(0, 1, 1, 2);
        Check.due("14: still 3", x.at(5, 3), 3);
        Check.due("19: none MIXED", x.count(3), 0);
        x.follow(1, 0, 1, 9);
        x.push(0, 1, 1, 1);
        Check.due("14: then 4", x.at(6, 3), 4);
        x.follow(0, 1, 1, 1);
        x.push(0, 1, 1, 1);
        Check.due("14: MIX is that of HIND and FORE", x.at(7, 3), 5);
    }

    /** "WENT is 1 more, if it was less than MIX; if it is MIX or more now". */
    private static void oneStepLessThanMix() {
        for (int mix = 2; mix <= 10; mix++) {
            OilLine x = Lines.two(20);
            x.follow(1, 0, 1, mix);
            x.push(0, 1, 1, mix - 1);
            Check.due("10: one step less than " + mix, x.count(3), 0);
            Check.due("14: it WENT", x.at(mix - 1, 3), mix - 1);
            x.undo();
            x.push(0, 1, 1, mix);
            Check.due("10: " + mix + " steps", x.count(3), 1);
            Check.due("14: MIXED is x", x.at(mix - 1, 2), 0);
            Check.due("14: it WENT 0", x.at(mix, 3), 0);
        }
    }

    /** MIX told less than what it WENT: that is no more then, and no less. */
    private static void wentMoreThanMix() {
        for (int mix = 3; mix <= 6; mix++) {
            OilLine x = Lines.two(12);
            x.follow(1, 0, 1, 9);
            x.push(0, 1, 1, 1);
            x.push(0, 1, 2, 3);
            Check.due("14: it WENT 4", x.at(4, 3), 4);
            x.follow(1, 0, 1, mix);
            x.push(0, 1, 2, 1);
            Check.due("10: x is alone in its BATCH", x.count(3), 0);
            Check.due("14: it WENT, MIX " + mix, x.at(5, 3), mix <= 4 ? 4 : 5);
            x.push(0, 1, 2, 1);
            Check.due("14: and then, MIX " + mix, x.at(6, 3), mix <= 4 ? 4 : mix);
        }
        OilLine y = Lines.two(12);
        y.follow(1, 0, 1, 9);
        y.push(0, 1, 1, 4);
        y.follow(1, 0, 1, 2);
        y.push(0, 1, 2, 1);
        Lines.looks("10: more than MIX mixes", y, "2111(10)0000000");
        Check.due("14: then it WENT 0", y.at(5, 3), 0);
    }

    /** "x, if between x and y lies an even number of MIXED ones, else y". */
    private static void evenAndOdd() {
        OilLine x = Lines.two(12);
        x.follow(1, 0, 1, 1);
        String[] due = {"100000000000", "1(10)0000000000", "11(10)(10)00000000", "11(10)(10)(10)0000000",
            "111(10)(10)(10)(10)00000", "111(10)(10)(10)(10)(10)0000"};
        for (int n = 1; n <= 6; n++) {
            x.push(0, 1, 1, n);
            Lines.looks("10: " + n + " steps", x, due[n - 1]);
            if (n < 6) {
                x.undo();
            }
        }
        Check.due("14: x was of BATCH 1", x.at(5, 0), 1);
        Check.due("14: y was of BATCH 0", x.at(6, 0), 0);
        Check.due("14: HIND", x.at(6, 1), 1);
        Check.due("14: FORE", x.at(5, 2), 0);
    }

    /** "none if the MEASURE on its far side is not PURE and of its own BATCH": of x, and of y. */
    private static void farSideOfAnotherBatch() {
        OilLine x = Lines.two(8);
        x.follow(1, 0, 1, 1);
        x.push(0, 1, 1, 1);
        x.push(0, 1, 1, 2);
        Lines.looks("10: x's is of the same KIND, but of BATCH 2", x, "11100000");
        Check.due("14: it WENT as much as MIX", x.at(3, 3), 1);
        OilLine y = Lines.two(8);
        y.push(0, 1, 0, 1);
        y.push(0, 1, 1, 2);
        y.follow(1, 0, 1, 1);
        y.push(0, 1, 3, 1);
        Lines.looks("10: x's is of its BATCH", y, "31(10)00000");
        y.push(0, 1, 3, 2);
        Lines.looks("10: y's is of the same KIND, but of BATCH 0", y, "3331(10)000");
        Check.due("14: y is of BATCH 1", y.at(5, 0), 1);
        Check.due("14: y WENT as much as MIX", y.at(5, 3), 1);
    }

    /** The BATCH between is MIXED from both sides until one PURE one of it is left. */
    private static void farSideMixed() {
        OilLine x = Lines.two(16);
        x.push(0, 1, 1, 4);
        x.push(0, 1, 2, 4);
        x.follow(1, 0, 1, 1);
        x.follow(2, 1, 1, 1);
        x.push(0, 1, 3, 3);
        Lines.looks("10", x, "33322(21)(21)(21)1(10)(10)(10)0000");
        Check.due("14: in front of 1 lies BATCH 1", x.at(7, 0), 1);
        Check.due("14: behind 1, too", x.at(9, 0), 1);
        x.push(0, 1, 3, 1);
        Lines.looks("10: y's far side is MIXED", x, "333322(21)(21)(21)1(10)(10)(10)(10)00");
        Check.due("14: it WENT as much as MIX", x.at(9, 3), 1);
        x.push(0, 1, 3, 1);
        Lines.looks("10: x's far side is MIXED", x, "3333322(21)(21)(21)1(10)(10)(10)(10)0");
        Check.due("14: y WENT as much as MIX", x.at(15, 3), 1);
        Check.due("14: nor now", x.at(10, 3), 1);
    }

    /** "or lies not from a's place on to in front of b's", though it is PURE and of y's BATCH. */
    private static void farSideBeyondB() {
        OilLine x = Lines.doors(8, 0, 8, 5);
        x.follow(1, 0, 1, 2);
        x.push(0, 2, 1, 4);
        Lines.looks("10: y's is at b's place", x, "111(10)0000");
        Check.due("14: it WENT as much as MIX", x.at(4, 3), 2);
        Check.due("14: of the same BATCH", x.at(5, 0), 0);
        x.push(0, 1, 2, 1);
        Lines.looks("10: with b at the end", x, "2111(10)(10)00");
        OilLine y = Lines.two(5);
        y.follow(1, 0, 1, 2);
        y.push(0, 1, 1, 4);
        Lines.looks("10: y's is beyond THE LINE", y, "111(10)0");
        Check.due("14: it WENT as much as MIX", y.at(4, 3), 2);
        OilLine z = Lines.two(5);
        z.follow(1, 0, 1, 1);
        z.push(0, 1, 1, 1);
        Lines.looks("10: x's is ahead of THE LINE", z, "10000");
        Check.due("14: it WENT as much as MIX", z.at(1, 3), 1);
    }

    private static void farSideInFrontOfB() {
        OilLine x = Lines.doors(8, 0, 8, 6);
        x.follow(1, 0, 1, 2);
        x.push(0, 2, 1, 4);
        Lines.looks("10: y's is in front of b's place", x, "111(10)(10)000");
        OilLine y = Lines.two(6);
        y.follow(1, 0, 1, 2);
        y.push(0, 1, 1, 4);
        Lines.looks("10: y's is the last of THE LINE", y, "111(10)(10)0");
        OilLine z = Lines.doors(8, 2, 8);
        z.follow(1, 0, 1, 2);
        z.push(0, 1, 1, 2);
        Lines.looks("10: x's is at a's place", z, "001(10)0000");
    }

    /** "If one did, what is the FORE PURE one of the BORDER then WENT 0"; if none did, it stays at MIX. */
    private static void foreOneWentNothing() {
        OilLine x = Lines.two(12);
        x.follow(1, 0, 1, 3);
        x.push(0, 1, 1, 3);
        Lines.looks("10", x, "11(10)000000000");
        Check.due("14: x did, y WENT 0", x.at(3, 3), 0);
        x.push(0, 1, 1, 2);
        Check.due("14: and goes on from there", x.at(5, 3), 2);
        x.push(0, 1, 1, 1);
        Lines.looks("10", x, "11111(10)(10)00000");
        Check.due("14: y did, the next one WENT 0", x.at(7, 3), 0);
        x.push(0, 1, 1, 2);
        Check.due("14: and goes on from there", x.at(9, 3), 2);
    }

    /** "(also if that is another one)": this one WENT 2 as a BORDER's of old. */
    private static void anotherForeOneWentNothing() {
        OilLine x = wentOfOld();
        x.push(0, 3, 2, 4);
        Lines.looks("10", x, "22220000");
        Check.due("14: none's", x.at(5, 3), 0);
        x.follow(2, 0, 1, 1);
        x.push(0, 1, 3, 1);
        Lines.looks("10", x, "3222(20)000");
        x.push(0, 1, 3, 1);
        Lines.looks("10", x, "33222(20)(20)0");
        Check.due("14: it WENT 0", x.at(7, 3), 0);
    }

    /** "it WENT so many steps, which y keeps": with another x, too. */
    private static void yKeepsIt() {
        OilLine x = wentOfOld();
        Check.due("14: with x of KIND 1", x.at(5, 3), 2);
        x.push(0, 3, 2, 2);
        Lines.looks("10", x, "22000000");
        Check.due("14: none's", x.at(5, 3), 0);
        x.push(0, 3, 2, 3);
        Lines.looks("10", x, "22222000");
        Check.due("14: with x of KIND 2", x.at(5, 3), 2);
    }

    /** The MEASURE at 5 WENT 2 behind KIND 1; what lies in front of it can go OUT at DOOR 3. */
    private static OilLine wentOfOld() {
        OilLine x = Lines.doors(8, 0, 8, 3, 5);
        x.follow(1, 0, 1, 9);
        x.push(2, 1, 1, 2);
        Lines.looks("10", x, "00011000");
        return x;
    }

    /** "from the end of THE LINE on to its begin": of two PURE ones both BORDERS want one, the later one has it. */
    private static void fromTheEndOn() {
        OilLine x = Lines.two(12);
        x.push(0, 1, 1, 2);
        x.push(0, 1, 2, 2);
        Lines.looks("10", x, "221100000000");
        x.follow(2, 1, 1, 1);
        x.push(0, 1, 3, 1);
        Lines.looks("10: x of the one BORDER", x, "32(21)110000000");
        x.follow(1, 0, 1, 1);
        x.push(0, 1, 3, 1);
        Lines.looks("10: x of the later one, not y of the other", x, "332(21)1(10)000000");
        Check.due("14: that WENT as much as MIX", x.at(4, 3), 1);
        Check.due("14: the later one WENT 0", x.at(6, 3), 0);
    }

    /** "OUT, PURE: into b's TANK for its KIND; without one it is SLOP of b." */
    private static void outPure() {
        OilLine x = Lines.bare(4);
        x.tank(1, 1, 0, 10000, 9990);
        Check.due("10: 0 has no TANK", x.push(0, 1, 1, 4), 1);
        Check.due("17: SLOP", x.about(1, 2), 4);
        Check.due("16: none came", x.tankOf(1, 1, 4), 0);
        Check.due("10: 1 has one", x.push(0, 1, 2, 4), 2);
        Check.due("17: no SLOP more", x.about(1, 2), 4);
        Check.due("16: four came", x.tankOf(1, 1, 4), 4);
        Check.due("16: none FOREIGN", x.tankOf(1, 1, 1), 0);
        Check.due("10: 2 has none", x.push(0, 1, 2, 60), 3);
        Check.due("17: SLOP has no MOST", x.about(1, 2), 64);
        Check.due("19: of all", x.count(4), 64);
    }

    /** Two MIXED ones of HIND 1 and FORE 0 come OUT next at DOOR 1, that has no TANK. */
    private static OilLine mixedNext() {
        OilLine x = Lines.bare(6);
        x.follow(1, 0, 1, 1);
        x.push(0, 1, 1, 3);
        x.follow(1, 0, 1, 0);
        x.push(0, 1, 1, 2);
        Lines.looks("10", x, "1111(10)(10)");
        Check.due("17: SLOP ahead", x.about(1, 2), 5);
        return x;
    }

    /** "its FOREIGN amount is then no more than GRACE hundredths of its amount". */
    private static void graceOfMixed() {
        int[][] amountGraceTaken = {{0, 100, 1}, {0, 99, 0}, {1, 50, 1}, {1, 49, 0}, {2, 34, 1}, {2, 33, 0},
            {3, 25, 1}, {3, 24, 0}, {99, 1, 1}, {98, 1, 0}, {100, 1, 1}, {9998, 0, 0}, {9999, 0, 0}, {9999, 1, 1},
            {0, 0, 0}, {9999, 100, 1}};
        for (int[] row : amountGraceTaken) {
            String told = row[1] + " hundredths of " + (row[0] + 1);
            OilLine x = mixedNext();
            x.tank(1, 1, 0, 10000, row[0]);
            x.grace(1, row[1]);
            Check.due("10: HIND " + told, x.push(0, 1, 1, 1), 3);
            Check.due("16: amount, HIND " + told, x.tankOf(1, 1, 0), row[0] + row[2]);
            Check.due("16: FOREIGN, HIND " + told, x.tankOf(1, 1, 1), row[2]);
            Check.due("16: came, HIND " + told, x.tankOf(1, 1, 4), row[2]);
            Check.due("17: SLOP, HIND " + told, x.about(1, 2), 6 - row[2]);
            OilLine y = mixedNext();
            y.tank(1, 0, 0, 10000, row[0]);
            y.grace(0, row[1]);
            Check.due("10: FORE " + told, y.push(0, 1, 1, 1), 3);
            Check.due("16: amount, FORE " + told, y.tankOf(1, 0, 0), row[0] + row[2]);
            Check.due("16: FOREIGN, FORE " + told, y.tankOf(1, 0, 1), row[2]);
            Check.due("17: SLOP, FORE " + told, y.about(1, 2), 6 - row[2]);
        }
    }

    private static void graceOfMoreThanOne() {
        for (int grace = 39; grace <= 40; grace++) {
            OilLine x = mixedNext();
            x.tank(1, 1, 0, 99, 3);
            x.grace(1, grace);
            x.push(0, 1, 1, 2);
            Check.due("16: 2 of 5, GRACE " + grace, x.tankOf(1, 1, 1), grace == 40 ? 2 : 1);
            Check.due("16: amount, GRACE " + grace, x.tankOf(1, 1, 0), grace == 40 ? 5 : 4);
            Check.due("17: SLOP, GRACE " + grace, x.about(1, 2), grace == 40 ? 5 : 6);
        }
    }

    /** "into b's TANK for the HIND, else for the FORE KIND .. else it is SLOP of b". */
    private static void hindElseFore() {
        for (int hindGrace = 9; hindGrace <= 10; hindGrace++) {
            for (int foreGrace = 9; foreGrace <= 10; foreGrace++) {
                OilLine x = mixedNext();
                x.tank(1, 1, 0, 99, 9);
                x.tank(1, 0, 0, 99, 9);
                x.grace(1, hindGrace);
                x.grace(0, foreGrace);
                x.push(0, 1, 1, 1);
                boolean hind = hindGrace == 10;
                boolean fore = !hind && foreGrace == 10;
                Check.due("16: HIND", x.tankOf(1, 1, 1), hind ? 1 : 0);
                Check.due("16: FORE", x.tankOf(1, 0, 1), fore ? 1 : 0);
                Check.due("17: SLOP", x.about(1, 2), hind || fore ? 5 : 6);
            }
        }
        OilLine y = mixedNext();
        y.grace(0, 100);
        y.grace(1, 100);
        y.push(0, 1, 1, 1);
        Check.due("17: no TANK of both", y.about(1, 2), 6);
    }

    /** "1 a has no TANK for the KIND, or it would have less than LEAST". */
    private static void sourceLeast() {
        OilLine x = new OilLine();
        x.door(0);
        x.door(20);
        x.tank(1, 1, 0, 99, 99);
        x.tank(0, 2, 0, 99, 99);
        Check.due("10: no TANK, but at b and of another KIND", x.push(0, 1, 1, 1), -11);
        x.line(20);
        x.door(0);
        x.door(20);
        Check.due("10: no TANK on a new LINE", x.push(0, 1, 2, 1), -11);
        int[][] leastAmount = {{0, 0}, {0, 1}, {0, 59}, {0, 60}, {7, 7}, {7, 8}, {9940, 10000}, {9941, 10000},
            {10000, 10000}};
        for (int[] row : leastAmount) {
            OilLine y = new OilLine();
            y.door(0);
            y.door(20);
            y.tank(0, 1, row[0], 10000, row[1]);
            int spare = row[1] - row[0];
            if (spare < 60) {
                Check.due("10: one too many", y.push(0, 1, 1, spare + 1), -11);
                Check.due("11: one too many", y.trial(0, 1, 1, spare + 1), -11);
                Check.due("16: nothing is done", y.tankOf(0, 1, 0), row[1]);
            }
            if (spare > 0) {
                Check.due("10: all but LEAST", y.push(0, 1, 1, spare), 1);
                Check.due("16: LEAST is left", y.tankOf(0, 1, 0), row[0]);
                Check.due("10: one more", y.push(0, 1, 1, 1), -11);
            }
        }
    }

    /** "2 a TANK of b would have more than MOST". */
    private static void sinkMost() {
        int[][] mostAmount = {{0, 0}, {1, 0}, {5, 5}, {5, 4}, {10000, 10000}, {10000, 9999}, {10000, 9990}};
        for (int[] row : mostAmount) {
            OilLine x = Lines.bare(60);
            x.tank(1, 0, 0, row[0], row[1]);
            x.tank(1, 1, 0, 0, 0);
            int spare = row[0] - row[1];
            Check.due("10: one too many", x.push(0, 1, 1, spare + 1), -12);
            Check.due("11: one too many", x.trial(0, 1, 1, spare + 1), -12);
            Check.due("16: nothing is done", x.tankOf(1, 0, 0), row[1]);
            if (spare > 0) {
                Check.due("10: as many as it can take", x.push(0, 1, 1, spare), 1);
                Check.due("16: MOST", x.tankOf(1, 0, 0), row[0]);
                Check.due("10: one more", x.push(0, 1, 1, 1), -12);
            }
        }
    }

    private static void sinkMostOfMixed() {
        OilLine x = mixedNext();
        x.tank(1, 1, 0, 9, 9);
        x.grace(1, 10);
        Check.due("10: 1 of 10 into HIND at MOST", x.push(0, 1, 1, 1), -12);
        x.grace(1, 9);
        Check.due("10: GRACE makes it SLOP, so HIND does not run over", x.push(0, 1, 1, 1), 3);
        OilLine y = mixedNext();
        y.tank(1, 0, 0, 9, 9);
        y.grace(0, 10);
        Check.due("10: 1 of 10 into FORE at MOST", y.push(0, 1, 1, 1), -12);
        y.grace(0, 9);
        Check.due("10: GRACE makes it SLOP, so FORE does not run over", y.push(0, 1, 1, 1), 3);
        OilLine z = mixedNext();
        z.tank(1, 1, 0, 10, 9);
        z.grace(1, 100);
        Check.due("10: the second one", z.push(0, 1, 1, 2), -12);
        Check.due("10: the first one", z.push(0, 1, 1, 1), 3);
    }

    private static void sinkMostOfForeIsNotAskedForHind() {
        OilLine x = mixedNext();
        x.tank(1, 1, 0, 10, 9);
        x.tank(1, 0, 0, 9, 9);
        x.grace(1, 100);
        x.grace(0, 100);
        Check.due("10: HIND has room", x.push(0, 1, 1, 1), 3);
        Check.due("10: HIND has none, FORE neither", x.push(0, 1, 1, 1), -12);
    }

    /** "looked at from the MEASURE at a's place .. it and its NEIGHBOUR towards the begin, it and that .. the end". */
    private static void lookedAtFromA() {
        OilLine x = Lines.doors(8, 0, 8, 3);
        x.push(0, 1, 1, 3);
        Lines.looks("10", x, "11100000");
        x.follow(2, 0, 0, 0);
        Check.due("10: 2 behind 0, towards the end", x.push(2, 1, 2, 1), -13);
        x.follow(2, 0, 1, 0);
        x.follow(1, 2, 0, 0);
        Check.due("10: 1 behind 2, towards the begin", x.push(2, 1, 2, 1), -13);
        x.follow(1, 2, 1, 0);
        x.follow(0, 2, 0, 0);
        x.follow(2, 1, 0, 0);
        Check.due("10: not the other way", x.push(2, 1, 2, 1), 2);
        OilLine y = Lines.two(4);
        for (int k = 0; k < 8; k++) {
            y.follow(k, 5, k == 5 ? 1 : 0, 0);
        }
        Check.due("10: towards the begin there is none", y.push(0, 1, 5, 4), 1);
    }

    /** ".. and from that in front of b's". */
    private static void lookedAtFromB() {
        OilLine x = Lines.doors(8, 0, 8, 4);
        x.push(0, 2, 1, 3);
        Lines.looks("10", x, "11100000");
        x.follow(1, 0, 0, 0);
        Check.due("10: 1 behind 0, at b's place", x.push(0, 2, 1, 1), -13);
        x.follow(1, 0, 1, 0);
        Check.due("10: it may", x.push(0, 2, 1, 1), 2);
        OilLine y = Lines.doors(8, 0, 8, 4);
        y.push(0, 2, 1, 2);
        y.push(0, 2, 2, 1);
        Lines.looks("10", y, "21100000");
        y.follow(2, 1, 0, 0);
        Check.due("10: not yet in front of b's", y.push(0, 2, 2, 1), 3);
        Lines.looks("10", y, "22110000");
        Check.due("10: 2 behind 1, that lies in front of b's", y.push(0, 2, 2, 1), -13);
        y.follow(2, 1, 1, 0);
        Check.due("10: it may", y.push(0, 2, 2, 1), 4);
        Lines.looks("10", y, "22210000");
        OilLine z = Lines.two(6);
        z.push(0, 1, 1, 3);
        for (int k = 1; k < 8; k++) {
            z.follow(0, k, 0, 0);
        }
        Check.due("10: towards the end there is none", z.push(0, 1, 1, 1), 2);
        Lines.looks("10", z, "111100");
    }

    /** "behind the STEP": what goes OUT in it is not looked at any more. */
    private static void lookedAtBehindTheStep() {
        OilLine x = Lines.doors(8, 0, 8, 4);
        x.push(0, 2, 1, 3);
        x.push(0, 2, 2, 3);
        Lines.looks("10", x, "22210000");
        x.follow(2, 1, 0, 0);
        x.follow(1, 0, 0, 0);
        Check.due("10: 1 goes OUT", x.push(0, 2, 2, 1), 3);
        Lines.looks("10", x, "22220000");
        OilLine y = Lines.doors(8, 3, 4);
        y.follow(0, 1, 0, 0);
        Check.due("10: one MEASURE between: towards the begin", y.push(0, 1, 1, 1), -13);
        y.follow(0, 1, 1, 0);
        y.follow(1, 0, 0, 0);
        Check.due("10: one MEASURE between: towards the end", y.push(0, 1, 1, 1), -13);
        y.follow(1, 0, 1, 0);
        Check.due("10: both may", y.push(0, 1, 1, 1), 1);
    }

    /** "(if it is MIXED: its two NEIGHBOURS)", and over MIXED ones. */
    private static void lookedAtFromMixed() {
        OilLine x = Lines.doors(8, 0, 8, 4);
        x.follow(1, 0, 1, 1);
        x.push(0, 1, 1, 3);
        Lines.looks("10", x, "11(10)(10)0000");
        x.follow(1, 0, 0, 0);
        Check.due("10: MIXED in front of b's, 1 and 0", x.push(0, 2, 1, 1), -13);
        x.follow(1, 0, 1, 0);
        x.follow(0, 1, 0, 0);
        Check.due("10: not the other way", x.push(0, 2, 1, 1), 2);
        Lines.looks("10", x, "111(10)0000");
        x.follow(3, 1, 0, 0);
        Check.due("10: at a's place 3 and 1", x.push(0, 2, 3, 1), -13);
        OilLine y = Lines.doors(8, 0, 8, 2);
        y.follow(1, 0, 1, 1);
        y.push(0, 1, 1, 3);
        y.follow(3, 0, 0, 0);
        Check.due("10: 3 and 0 over MIXED ones", y.push(2, 1, 3, 1), -13);
        OilLine z = Lines.doors(8, 0, 8, 4);
        z.follow(1, 0, 1, 1);
        z.push(0, 1, 1, 3);
        z.follow(1, 3, 0, 0);
        Check.due("10: 1 and 3 over MIXED ones", z.push(2, 1, 3, 1), -13);
        z.follow(1, 3, 1, 0);
        Check.due("10: they may", z.push(2, 1, 3, 1), 2);
    }

    /** "its two NEIGHBOURS": of what it is mixed itself is not looked at. */
    private static void lookedAtFromMixedAmongOthers() {
        OilLine x = Lines.doors(8, 0, 8, 2, 4);
        x.follow(1, 0, 1, 1);
        x.push(0, 1, 1, 3);
        Lines.looks("10", x, "11(10)(10)0000");
        x.follow(1, 0, 0, 0);
        x.follow(3, 1, 0, 0);
        Check.due("10: 3 and 0 may, whatever lies between", x.push(2, 3, 3, 1), 2);
        Lines.looks("10", x, "113(10)0000");
        x.undo();
        x.follow(3, 0, 0, 0);
        Check.due("10: 3 and 0 may not", x.push(2, 3, 3, 1), -13);
    }

    /** "behind the STEP": what becomes MIXED in it is MIXED then, and the last one's NEIGHBOUR is another. */
    private static void lookedAtAfterMixing() {
        OilLine x = Lines.two(6);
        x.follow(1, 0, 1, 2);
        x.push(0, 1, 1, 3);
        Lines.looks("10", x, "11(10)000");
        x.follow(1, 0, 0, 3);
        Check.due("10: none mixes, 0 and 0", x.trial(0, 1, 1, 1), 2);
        x.follow(1, 0, 0, 2);
        Check.due("10: y mixes, 1 and 0", x.trial(0, 1, 1, 1), -13);
        x.follow(1, 0, 1, 2);
        Check.due("10: they may", x.push(0, 1, 1, 1), 2);
        Lines.looks("10", x, "111(10)(10)0");
    }

    /** Elsewhere than at a's place and in front of b's a pair that may not be is let go. */
    private static void lookedAtNowhereElse() {
        OilLine x = Lines.two(8);
        x.push(0, 1, 1, 3);
        x.push(0, 1, 2, 1);
        Lines.looks("10", x, "21110000");
        x.follow(1, 0, 0, 0);
        Check.due("10: 1 and 0 in between", x.push(0, 1, 2, 2), 3);
        Lines.looks("10", x, "22211100");
        Check.due("10: until 0 lies in front of b's", x.push(0, 1, 2, 1), -13);
    }

    /** "by the first that is so": of one STEP. */
    private static void firstRefusalOfAStep() {
        for (int which = 1; which < 8; which++) {
            boolean one = (which & 1) != 0;
            boolean two = (which & 2) != 0;
            boolean three = (which & 4) != 0;
            OilLine x = new OilLine();
            x.door(0);
            x.door(20);
            x.tank(0, 1, 5, 9, one ? 5 : 6);
            x.tank(1, 0, 0, 9, two ? 9 : 8);
            x.follow(1, 0, three ? 0 : 1, 0);
            int due = one ? -11 : two ? -12 : -13;
            Check.due("10: refusals " + which, x.push(0, 1, 1, 1), due);
            Check.due("11: refusals " + which, x.trial(0, 1, 1, 1), due);
        }
        OilLine y = new OilLine();
        y.door(0);
        y.door(20);
        y.tank(0, 1, 5, 9, 6);
        y.tank(1, 0, 0, 9, 8);
        Check.due("10: none of them", y.push(0, 1, 1, 1), 1);
    }

    /** "at the first STEP": 1, 2 and 3 are so at these STEPS at first (of 5; 6: never). */
    private static void firstStepOfRefusals() {
        for (int one = 1; one <= 6; one++) {
            for (int two = 1; two <= 6; two++) {
                for (int three = 1; three <= 6; three++) {
                    int first = Math.min(one, Math.min(two, three));
                    int due = first > 5 ? 7 : first == one ? -11 : first == two ? -12 : -13;
                    OilLine x = refusedAt(one, two, three);
                    String steps = one + ", " + two + ", " + three;
                    Check.due("11: at STEPS " + steps, x.trial(0, 1, 2, 5), due);
                    if (first > 1) {
                        Check.due("11: one less than STEPS " + steps, x.trial(0, 1, 2, first - 1), 7);
                    }
                    Check.due("10: at STEPS " + steps, x.push(0, 1, 2, 5), due);
                }
            }
        }
    }

    /** Of KIND 2 DOOR 0 has one - 1 to give, of KIND 1 DOOR 1 can take two - 1; 3 comes to 0 after three STEPS. */
    private static OilLine refusedAt(int one, int two, int three) {
        OilLine x = new OilLine();
        x.line(20);
        x.door(0);
        x.door(6);
        x.tank(0, 1, 0, 10, 10);
        x.tank(0, 2, 10, 100, 10 + one - 1);
        x.tank(0, 3, 0, 10, 10);
        for (int place = 5; place >= 0; place--) {
            x.push(0, 1, place == 5 - three ? 3 : 1, 1);
        }
        x.tank(1, 1, 0, 100, 100 - (two - 1));
        x.follow(3, 0, 0, 0);
        return x;
    }
}
