/** Promises 10 to 13: PUSHES, how they mix and what refuses them, trial, undo, wait. */
public final class PushTest {
    private static final int NONE = OilLine.NONE, BAD = OilLine.BAD, STATE = OilLine.STATE, FULL = OilLine.FULL;

    public static void main(String[] args) {
        ordinary();
        wrongCalls();
        fullOfBatches();
        mixing();
        mixingOnEdges();
        wentStaysWithMeasure();
        mixLowered();
        mixingOnlyBetweenDoors();
        farSideOfAnotherBatch();
        fromEndToBegin();
        outOfPure();
        outOfMixed();
        outIntoFore();
        foreignTakenOut();
        refusalOfSource();
        refusalOfSink();
        fullSinkForMixed();
        refusalOfFollowing();
        followingOverMixed();
        followingAtMixed();
        firstStepFirst();
        refusedChangesNothing();
        trials();
        undoing();
        whatEndsUndo();
        waiting();
        hoursAndPrices();
        Check.end();
    }

    private static void ordinary() {
        OilLine x = Lines.two(6);
        Check.due("10: first", x.push(0, 1, 1, 2), 1);
        Lines.looks("10", x, "110000");
        Check.due("10: out of a", x.tankOf(0, 1, 0), 498);
        Check.due("10: into b", x.tankOf(1, 0, 0), 502);
        Check.due("10: second", x.push(0, 1, 2, 60), 2);
        Lines.looks("10", x, "222222");
        Check.due("10: 4 of KIND 0 more", x.tankOf(1, 0, 0), 506);
        Check.due("10: 2 of KIND 1", x.tankOf(1, 1, 0), 502);
        Check.due("10: 54 of KIND 2", x.tankOf(1, 2, 0), 554);
        Check.due("10: BATCH 2 OUT", x.batch(2, 4), 54);
    }

    private static void wrongCalls() {
        OilLine x = Lines.two(6);
        Check.due("10: a", x.push(2, 1, 1, 1), NONE);
        Check.due("10: b", x.push(0, 2, 1, 1), NONE);
        Check.due("10: KIND", x.push(0, 1, 8, 1), NONE);
        Check.due("10: NONE ahead of BAD", x.push(0, 1, 8, 0), NONE);
        Check.due("10: back", x.push(1, 0, 1, 1), BAD);
        Check.due("10: to itself", x.push(0, 0, 1, 1), BAD);
        Check.due("10: n 0", x.push(0, 1, 1, 0), BAD);
        Check.due("10: n 61", x.push(0, 1, 1, 61), BAD);
        Check.due("10: n 60", x.push(0, 1, 1, 60), 1);
        Check.due("10: BAD ahead of a refusal", x.push(1, 0, 1, 1), BAD);
    }

    private static void fullOfBatches() {
        OilLine x = Lines.two(4);
        for (int b = 1; b < 200; b++) {
            Check.due("10: number", x.push(0, 1, b % 8, 1), b);
        }
        Check.due("10: 200 BATCHES", x.count(2), 200);
        Check.due("10: 199 to take back", x.count(8), 199);
        Check.due("10: FULL", x.push(0, 1, 1, 1), FULL);
        Check.due("11: FULL", x.trial(0, 1, 1, 1), FULL);
        Check.due("10: BAD ahead of FULL", x.push(1, 0, 1, 1), BAD);
        Check.due("10: NONE ahead of FULL", x.push(9, 0, 1, 1), NONE);
        Check.due("10: the last one's KIND", x.batch(199, 0), 7);
        for (int b = 199; b > 0; b--) {
            Check.due("12: undo", x.undo(), b);
        }
        Check.due("12: none more", x.undo(), STATE);
        Lines.looks("12", x, "0000");
        Check.due("12: TIME", x.count(0), 0);
        Check.due("12: push again", x.push(0, 1, 1, 1), 1);
    }

    private static void mixing() {
        OilLine x = Lines.two(12);
        x.follow(1, 0, 1, 2);
        x.push(0, 1, 1, 1);
        Lines.looks("10: WENT 1", x, "100000000000");
        Check.due("10: WENT 1", x.at(1, 3), 1);
        x.push(0, 1, 1, 1);
        Lines.looks("10: HIND is of another BATCH than its far side", x, "110000000000");
        Check.due("10: WENT stays at MIX", x.at(2, 3), 2);
        x.push(0, 1, 1, 3);
        Lines.looks("10: still so", x, "111110000000");
        Check.due("10: WENT still", x.at(5, 3), 2);
        OilLine y = Lines.two(12);
        y.follow(1, 0, 1, 2);
        y.push(0, 1, 1, 2);
        Lines.looks("10: HIND mixes first", y, "1(10)0000000000");
        Check.due("10: WENT anew", y.at(2, 3), 0);
        y.push(0, 1, 1, 1);
        Check.due("10: WENT 1 of FORE", y.at(3, 3), 1);
        y.push(0, 1, 1, 1);
        Lines.looks("10: then FORE", y, "111(10)(10)0000000");
        Check.due("10: WENT of another FORE one", y.at(5, 3), 0);
        Check.due("10: MIXED is no BORDER's", y.at(4, 3), 0);
        Check.due("10: BATCH of MIXED HIND", y.at(3, 0), 1);
        Check.due("10: BATCH of MIXED FORE", y.at(4, 0), 0);
    }

    /** No MEASURE at a's place or in front of b's can mix: its far side lies beyond. */
    private static void mixingOnEdges() {
        OilLine x = Lines.two(5);
        x.follow(1, 0, 1, 1);
        x.push(0, 1, 1, 1);
        Lines.looks("10: HIND at a's place", x, "10000");
        Check.due("10: WENT is MIX", x.at(1, 3), 1);
        OilLine y = Lines.two(6);
        y.follow(1, 0, 1, 1);
        y.push(0, 1, 1, 3);
        Lines.looks("10: three", y, "11(10)(10)00");
        y.push(0, 1, 2, 1);
        Lines.looks("10: HIND again after two", y, "21(10)(10)(10)0");
        OilLine v = Lines.two(5);
        v.follow(1, 0, 1, 1);
        v.push(0, 1, 1, 3);
        Lines.looks("10: the far side of FORE in front of b's place", v, "11(10)(10)0");
        OilLine z = Lines.two(4);
        z.follow(1, 0, 1, 1);
        z.push(0, 1, 1, 3);
        Lines.looks("10: FORE in front of b's place", z, "11(10)0");
        Check.due("10: WENT of it", z.at(3, 3), 1);
    }

    private static void wentStaysWithMeasure() {
        OilLine x = middle(8, 3);
        x.follow(1, 0, 1, 5);
        x.push(0, 1, 1, 3);
        Check.due("10: WENT 3", x.at(3, 3), 3);
        x.push(2, 1, 0, 1);
        Lines.looks("10: its like comes between", x, "11100000");
        Check.due("10: FORE is the new one", x.at(3, 3), 0);
        Check.due("10: none's", x.at(4, 3), 0);
        x.undo();
        x.push(2, 1, 2, 1);
        Lines.looks("10: another comes between", x, "11120000");
        Check.due("10: y keeps it", x.at(4, 3), 3);
        x.follow(2, 0, 1, 5);
        x.push(2, 1, 2, 1);
        Check.due("10: and goes on", x.at(5, 3), 4);
    }

    private static void mixLowered() {
        OilLine x = Lines.two(8);
        x.follow(1, 0, 1, 9);
        x.push(0, 1, 1, 4);
        Check.due("10: WENT 4", x.at(4, 3), 4);
        x.follow(1, 0, 1, 2);
        x.push(0, 1, 2, 1);
        Lines.looks("10: MIX or more", x, "2111(10)000");
        Check.due("10: WENT 0", x.at(5, 3), 0);
        OilLine y = Lines.two(8);
        y.follow(1, 0, 1, 9);
        y.push(0, 1, 1, 1);
        y.push(0, 1, 2, 3);
        y.follow(1, 0, 1, 2);
        y.push(0, 1, 2, 1);
        Check.due("10: no less than it WENT", y.at(5, 3), 4);
    }

    private static void mixingOnlyBetweenDoors() {
        OilLine x = middle(8, 4);
        x.follow(1, 0, 1, 3);
        x.follow(2, 1, 1, 1);
        x.push(0, 1, 1, 4);
        Lines.looks("10", x, "111(10)0000");
        Check.due("10: WENT", x.at(4, 3), 1);
        x.push(0, 2, 1, 1);
        Lines.looks("10: HIND lies out of the way", x, "11110000");
        Check.due("10: FORE beyond b does not go", x.at(4, 3), 1);
        x.push(2, 1, 0, 1);
        Check.due("10: FORE is the new one", x.at(4, 3), 0);
        x.push(2, 1, 2, 1);
        Check.due("10: HIND in front of a", x.at(4, 3), 0);
    }

    private static void farSideOfAnotherBatch() {
        OilLine x = Lines.two(8);
        x.follow(1, 0, 1, 1);
        x.push(0, 1, 0, 3);
        x.push(0, 1, 1, 2);
        Lines.looks("10", x, "1(10)000000");
        x.undo();
        x.push(0, 1, 0, 1);
        x.push(0, 1, 1, 2);
        x.push(0, 1, 1, 1);
        Lines.looks("10: FORE's far side is of BATCH 1", x, "11(10)00000");
        Check.due("10: BATCH of FORE", x.at(3, 0), 2);
        Check.due("10: BATCH beyond", x.at(4, 0), 1);
    }

    /** The fore BORDER comes first: its HIND one mixes, and that is then no far side for the other. */
    private static void fromEndToBegin() {
        OilLine x = Lines.two(8);
        x.follow(2, 1, 1, 1);
        x.push(0, 1, 1, 2);
        x.push(0, 1, 2, 2);
        Lines.looks("10", x, "2(21)110000");
        x.follow(1, 0, 1, 1);
        x.push(0, 1, 3, 1);
        Lines.looks("10: both want the BATCH between", x, "32(21)1(10)000");
        Check.due("10: WENT of the other", x.at(3, 3), 1);
        OilLine y = Lines.two(8);
        y.push(0, 1, 1, 2);
        y.push(0, 1, 2, 1);
        y.follow(1, 0, 1, 1);
        y.follow(2, 1, 1, 1);
        y.push(0, 1, 3, 1);
        Lines.looks("10: HIND of its own BATCH alone", y, "321(10)0000");
        y.push(0, 1, 3, 1);
        Lines.looks("10: then FORE", y, "3321(10)(10)00");
    }

    private static void outOfPure() {
        OilLine x = Lines.bare(4);
        x.push(0, 1, 1, 3);
        Check.due("10: SLOP", x.about(1, 2), 3);
        Check.due("10: no SLOP of a", x.about(0, 2), 0);
        x.tank(1, 0, 0, 5, 0);
        x.push(0, 1, 1, 3);
        Check.due("10: into the TANK", x.tankOf(1, 0, 0), 1);
        Check.due("10: none FOREIGN", x.tankOf(1, 0, 1), 0);
        Check.due("10: the others are SLOP", x.about(1, 2), 5);
    }

    /** Two MIXED ones come OUT next at DOOR 1, whose TANKS the caller tells. */
    private static OilLine withMixed() {
        OilLine x = Lines.bare(6);
        x.follow(1, 0, 1, 1);
        x.push(0, 1, 1, 3);
        Lines.looks("10", x, "11(10)(10)00");
        x.follow(1, 0, 1, 0);
        x.push(0, 1, 1, 2);
        Lines.looks("10", x, "1111(10)(10)");
        return x;
    }

    private static void outOfMixed() {
        OilLine x = withMixed();
        x.tank(1, 1, 0, 99, 3);
        x.grace(1, 25);
        int slop = x.about(1, 2);
        x.push(0, 1, 1, 1);
        Check.due("10: 1 of 4 is 25 hundredths", x.tankOf(1, 1, 1), 1);
        Check.due("10: amount", x.tankOf(1, 1, 0), 4);
        Check.due("10: came", x.tankOf(1, 1, 4), 1);
        x.undo();
        Check.due("12: none FOREIGN again", x.tankOf(1, 1, 1), 0);
        x.push(0, 1, 1, 1);
        x.push(0, 1, 1, 1);
        Check.due("10: 2 of 5 are too many", x.tankOf(1, 1, 1), 1);
        Check.due("10: SLOP", x.about(1, 2), slop + 1);
        x.push(0, 1, 1, 1);
        Check.due("10: PURE is not FOREIGN", x.tankOf(1, 1, 1), 1);
        Check.due("10: amount then", x.tankOf(1, 1, 0), 5);
        OilLine y = withMixed();
        y.tank(1, 1, 0, 99, 3);
        y.grace(1, 24);
        y.push(0, 1, 1, 1);
        Check.due("10: 25 are more than 24", y.tankOf(1, 1, 1), 0);
        OilLine z = withMixed();
        z.tank(1, 1, 0, 99, 0);
        z.grace(1, 100);
        z.push(0, 1, 1, 2);
        Check.due("10: all may be FOREIGN", z.tankOf(1, 1, 1), 2);
    }

    private static void outIntoFore() {
        OilLine x = withMixed();
        x.tank(1, 1, 0, 99, 0);
        x.tank(1, 0, 0, 99, 9);
        x.grace(1, 10);
        x.grace(0, 10);
        int slop = x.about(1, 2);
        x.push(0, 1, 1, 1);
        Check.due("10: not into HIND", x.tankOf(1, 1, 0), 0);
        Check.due("10: into FORE", x.tankOf(1, 0, 0), 10);
        Check.due("10: FOREIGN there", x.tankOf(1, 0, 1), 1);
        x.push(0, 1, 1, 1);
        Check.due("10: into none", x.about(1, 2), slop + 1);
        OilLine y = withMixed();
        y.tank(1, 0, 0, 99, 9);
        y.grace(0, 10);
        y.push(0, 1, 1, 1);
        Check.due("10: no TANK for HIND", y.tankOf(1, 0, 0), 10);
        OilLine z = withMixed();
        z.tank(1, 1, 0, 99, 9);
        z.tank(1, 0, 0, 99, 9);
        z.grace(1, 10);
        z.grace(0, 10);
        z.push(0, 1, 1, 1);
        Check.due("10: HIND ahead of FORE", z.tankOf(1, 1, 1), 1);
        Check.due("10: FORE has none", z.tankOf(1, 0, 1), 0);
    }

    private static void foreignTakenOut() {
        OilLine x = new OilLine();
        x.line(12);
        x.door(0);
        x.door(6);
        x.door(12);
        x.tank(0, 1, 0, 99, 99);
        x.tank(1, 1, 0, 99, 0);
        x.follow(1, 0, 1, 1);
        x.push(0, 1, 1, 3);
        x.follow(1, 0, 1, 0);
        x.grace(1, 100);
        x.push(0, 1, 1, 4);
        Lines.looks("10", x, "111111000000");
        Check.due("10: amount", x.tankOf(1, 1, 0), 2);
        Check.due("10: FOREIGN", x.tankOf(1, 1, 1), 2);
        x.push(1, 2, 1, 1);
        Check.due("10: FOREIGN is no more than the amount", x.tankOf(1, 1, 1), 1);
        Check.due("10: what came stays", x.tankOf(1, 1, 4), 2);
        x.push(0, 1, 1, 2);
        x.push(1, 2, 1, 1);
        Check.due("10: FOREIGN stays if it can", x.tankOf(1, 1, 1), 1);
        Check.due("10: amount then", x.tankOf(1, 1, 0), 2);
    }

    private static void refusalOfSource() {
        OilLine x = new OilLine();
        x.door(0);
        x.door(20);
        Check.due("10: no TANK", x.push(0, 1, 1, 1), -11);
        x.tank(0, 1, 2, 9, 5);
        Check.due("10: 4 of 3", x.push(0, 1, 1, 4), -11);
        Check.due("10: nothing done", x.tankOf(0, 1, 0), 5);
        Check.due("10: 3 of 3", x.push(0, 1, 1, 3), 1);
        Check.due("10: LEAST is left", x.tankOf(0, 1, 0), 2);
        Check.due("10: none more", x.push(0, 1, 1, 1), -11);
    }

    private static void refusalOfSink() {
        OilLine x = Lines.bare(6);
        x.tank(1, 0, 0, 7, 4);
        Check.due("10: 4 into 3", x.push(0, 1, 1, 4), -12);
        Check.due("10: 3 into 3", x.push(0, 1, 1, 3), 1);
        Check.due("10: MOST", x.tankOf(1, 0, 0), 7);
        Check.due("10: 1 into 0", x.push(0, 1, 1, 1), -12);
    }

    private static void fullSinkForMixed() {
        OilLine x = withMixed();
        x.tank(1, 1, 0, 9, 9);
        x.tank(1, 0, 0, 99, 9);
        x.grace(1, 100);
        x.grace(0, 100);
        Check.due("10: HIND would run over", x.push(0, 1, 1, 1), -12);
        x.grace(1, 9);
        Check.due("10: not HIND, so FORE", x.push(0, 1, 1, 1), 3);
    }

    private static void refusalOfFollowing() {
        OilLine x = middle(6, 3);
        x.follow(1, 0, 0, 0);
        Check.due("10: HIND of what it meets", x.push(0, 1, 1, 1), -13);
        x.follow(1, 0, 1, 0);
        x.follow(0, 1, 0, 0);
        Check.due("10: FORE of what lies behind", x.push(2, 1, 1, 1), -13);
        Check.due("10: nothing lies behind", x.push(0, 1, 1, 2), 1);
        Lines.looks("10", x, "110000");
        Check.due("10: in front of b's: 1 comes to 0 beyond", x.push(0, 2, 2, 1), 2);
        Lines.looks("10", x, "211000");
        x.follow(2, 0, 0, 0);
        Check.due("10: at b's place 2 would come to 0", x.push(0, 2, 2, 3), -13);
        Check.due("10: as far as 1 is there", x.push(0, 2, 2, 1), 3);
        Lines.looks("10", x, "221000");
    }

    /** The line 11(10)(10)0000 that mixes no more, with a DOOR 2 at that place. */
    private static OilLine mixedWithMiddle(int place) {
        OilLine x = middle(8, place);
        x.follow(1, 0, 1, 1);
        x.push(0, 1, 1, 3);
        Lines.looks("10", x, "11(10)(10)0000");
        x.follow(1, 0, 1, 0);
        return x;
    }

    private static void followingOverMixed() {
        OilLine x = mixedWithMiddle(2);
        x.follow(3, 0, 0, 0);
        Check.due("10: 3 and 0 over MIXED ones", x.push(2, 1, 3, 1), -13);
        x.follow(3, 0, 1, 0);
        x.follow(1, 3, 0, 0);
        Check.due("10: 1 and 3", x.push(2, 1, 3, 1), -13);
        x.follow(1, 3, 1, 0);
        Check.due("10: both may", x.push(2, 1, 3, 1), 2);
        OilLine y = mixedWithMiddle(4);
        y.follow(1, 3, 0, 0);
        Check.due("10: 1 and 3 over MIXED ones", y.push(2, 1, 3, 1), -13);
        y.follow(1, 3, 1, 0);
        Check.due("10: they may", y.push(2, 1, 3, 1), 2);
    }

    private static void followingAtMixed() {
        OilLine x = mixedWithMiddle(4);
        x.follow(1, 0, 0, 0);
        Check.due("10: 1 and 0 in between are not looked at", x.push(0, 1, 2, 1), 2);
        Lines.looks("10", x, "211(10)(10)000");
        Check.due("10", x.undo(), 2);
        Check.due("10: MIXED in front of b's: 1 and 0", x.push(0, 2, 2, 1), -13);
        x.follow(1, 0, 1, 0);
        x.follow(2, 1, 0, 0);
        Check.due("10: 2 and 1 at a's place", x.push(0, 2, 2, 1), -13);
        x.follow(2, 1, 1, 0);
        x.follow(2, 0, 0, 0);
        Check.due("10: MIXED in front of b's: 1 and 0 may", x.push(0, 2, 2, 1), 2);
        Lines.looks("10", x, "211(10)0000");
        Check.due("10: PURE 1 to 0", x.push(0, 2, 2, 2), 3);
        Lines.looks("10", x, "22210000");
        Check.due("10: PURE 2 to 0", x.push(0, 2, 2, 1), -13);
    }

    private static void firstStepFirst() {
        OilLine x = Lines.bare(4);
        x.tank(1, 0, 0, 2, 0);
        x.follow(1, 0, 0, 0);
        Check.due("10: 3 at step 1 ahead of 2 at step 3", x.push(0, 1, 1, 3), -13);
        x.follow(1, 0, 1, 0);
        Check.due("10: 2 at step 3", x.push(0, 1, 1, 3), -12);
        OilLine y = Lines.bare(4);
        y.tank(1, 0, 0, 0, 0);
        y.follow(1, 0, 0, 0);
        Check.due("10: 2 ahead of 3", y.push(0, 1, 1, 1), -12);
        OilLine z = new OilLine();
        z.door(0);
        z.door(20);
        z.tank(1, 0, 0, 0, 0);
        z.follow(1, 0, 0, 0);
        Check.due("10: 1 ahead of 2 and 3", z.push(0, 1, 1, 1), -11);
        z.tank(0, 1, 0, 3, 1);
        z.follow(1, 0, 1, 0);
        Check.due("10: 2 at step 1 ahead of 1 at step 2", z.push(0, 1, 1, 2), -12);
    }

    private static void refusedChangesNothing() {
        OilLine x = Lines.bare(6);
        x.follow(1, 0, 1, 1);
        x.tank(1, 0, 0, 3, 0);
        x.push(0, 1, 1, 2);
        String line = Lines.picture(x);
        Check.due("10: at the second step", x.push(0, 1, 2, 2), -12);
        Lines.looks("10: refused", x, line);
        Check.due("10: TANK of a", x.tankOf(0, 2, 0), 500);
        Check.due("10: TANK of b", x.tankOf(1, 0, 0), 2);
        Check.due("10: came", x.tankOf(1, 0, 4), 2);
        Check.due("10: OUT", x.batch(0, 4), 2);
        Check.due("10: BATCHES", x.count(2), 2);
        Check.due("10: TIME", x.count(0), 1);
        Check.due("10: cost", x.count(1), 1);
        Check.due("10: can still be taken back", x.undo(), 1);
        Lines.looks("12", x, "000000");
    }

    private static void trials() {
        OilLine x = Lines.two(6);
        x.follow(1, 0, 1, 1);
        x.wish(1, 0, 1, 0);
        Check.due("11: what push would", x.trial(0, 1, 1, 3), 1);
        Lines.looks("11: nothing changes", x, "000000");
        Check.due("11: TANK", x.tankOf(0, 1, 0), 500);
        Check.due("11: BATCHES", x.count(2), 1);
        Check.due("11: no BATCH 1", x.batch(1, 0), NONE);
        Check.due("11: OUT", x.batch(0, 4), 0);
        Check.due("11: TIME", x.count(0), 0);
        Check.due("11: cost", x.count(1), 0);
        Check.due("11: WISH", x.wished(0, 0), NONE);
        Check.due("11: none to take back", x.undo(), STATE);
        Check.due("11: NONE", x.trial(0, 2, 1, 3), NONE);
        Check.due("11: BAD", x.trial(1, 0, 1, 3), BAD);
        Check.due("11: push then", x.push(0, 1, 1, 3), 1);
        Check.due("11: next", x.trial(0, 1, 2, 3), 2);
        Check.due("11: undo goes by it", x.undo(), 1);
        x.follow(2, 0, 0, 0);
        Check.due("11: refusal", x.trial(0, 1, 2, 1), -13);
    }

    private static void undoing() {
        OilLine x = Lines.bare(6);
        x.tank(1, 0, 0, 99, 0);
        x.follow(1, 0, 1, 2);
        x.wish(1, 0, 3, 0);
        x.push(0, 1, 1, 2);
        String line = Lines.picture(x);
        x.push(0, 1, 3, 30);
        Check.due("12: KEPT", x.wished(0, 0), 4);
        Check.due("12: two", x.count(8), 2);
        Check.due("12: undo", x.undo(), 2);
        Check.due("12: one", x.count(8), 1);
        Lines.looks("12: the line", x, line);
        Check.due("12: WENT", x.at(2, 3), 0);
        Check.due("12: not KEPT", x.wished(0, 0), NONE);
        Check.due("12: wanting", x.wished(0, 2), 1);
        Check.due("12: LATE", x.wished(0, 1), 1);
        Check.due("12: TIME", x.count(0), 1);
        Check.due("12: cost", x.count(1), 1);
        Check.due("12: SLOP", x.count(4), 0);
        Check.due("12: TANK", x.tankOf(1, 0, 0), 2);
        Check.due("12: came", x.tankOf(1, 0, 4), 2);
        Check.due("12: TANK of a", x.tankOf(0, 3, 0), 500);
        Check.due("12: BATCH 2 is no more", x.batch(2, 0), NONE);
        Check.due("12: OUT of BATCH 0", x.batch(0, 4), 2);
        Check.due("12: number again", x.push(0, 1, 4, 1), 2);
        Check.due("12: KIND of it", x.batch(2, 0), 4);
        Check.due("12: OUT of it", x.batch(2, 4), 0);
        Check.due("12: undo it", x.undo(), 2);
        Check.due("12: and the first", x.undo(), 1);
        Check.due("12: none more", x.undo(), STATE);
        Lines.looks("12: as at first", x, "000000");
    }

    private static void whatEndsUndo() {
        for (int call = 0; call < 9; call++) {
            OilLine x = Lines.two(6);
            x.door(5);
            x.push(0, 1, 1, 1);
            tell(x, call, false);
            Check.due("12: refused, call " + call, x.count(8), 1);
            x.trial(0, 1, 1, 1);
            x.push(0, 1, 1, 0);
            Check.due("12: push refused, call " + call, x.count(8), 1);
            tell(x, call, true);
            Check.due("12: ends it, call " + call, x.count(8), 0);
            Check.due("12: undo, call " + call, x.undo(), STATE);
            if (call != 8) {
                Check.due("12: push, call " + call, x.push(0, 1, 1, 1), 2);
                Check.due("12: undo that, call " + call, x.undo(), 2);
                Check.due("12: not the one ahead, call " + call, x.undo(), STATE);
            }
        }
    }

    private static void tell(OilLine x, int call, boolean well) {
        switch (call) {
            case 0 -> x.door(well ? 3 : 6);
            case 1 -> x.tank(well ? 2 : 0, 0, 0, 1, 0);
            case 2 -> x.follow(0, 0, well ? 1 : 0, 0);
            case 3 -> x.grace(0, well ? 0 : 101);
            case 4 -> x.rate(0, well ? 10 : 0);
            case 5 -> x.price(0, well ? 1 : -1);
            case 6 -> x.wish(1, 0, well ? 1 : 0, 0);
            case 7 -> x.wait(well ? 0 : -1);
            default -> x.line(well ? 6 : 3);
        }
    }

    private static void waiting() {
        OilLine x = Lines.two(6);
        Check.due("13: -1", x.wait(-1), BAD);
        Check.due("13: 1001", x.wait(1001), BAD);
        Check.due("13: 0", x.wait(0), 0);
        Check.due("13: 1000", x.wait(1000), 1000);
        Check.due("13: 7", x.wait(7), 1007);
        Check.due("13: TIME", x.count(0), 1007);
        Check.due("13: costs nothing", x.count(1), 0);
    }

    private static void hoursAndPrices() {
        OilLine x = Lines.two(6);
        x.price(0, 5);
        x.price(1, 0);
        x.price(2, 100);
        x.price(23, 7);
        x.push(0, 1, 1, 10);
        Check.due("10: 10 by 10", x.count(0), 1);
        Check.due("10: hour 0", x.count(1), 5);
        x.push(0, 1, 1, 11);
        Check.due("10: 11 by 10, up", x.count(0), 3);
        Check.due("10: hours 1 and 2", x.count(1), 105);
        x.rate(0, 60);
        x.rate(1, 30);
        x.push(0, 1, 1, 60);
        Check.due("10: the lesser is b's", x.count(0), 5);
        Check.due("10: hours 3 and 4", x.count(1), 107);
        x.rate(0, 20);
        x.push(0, 1, 1, 60);
        Check.due("10: the lesser is a's", x.count(0), 8);
        x.wait(15);
        int cost = x.count(1);
        x.push(0, 1, 1, 40);
        Check.due("10: TIME 25", x.count(0), 25);
        Check.due("10: hours 23 and 0", x.count(1), cost + 7 + 5);
        x.rate(1, 1);
        x.push(0, 1, 1, 60);
        Check.due("10: 60 hours", x.count(0), 85);
        Check.due("10: of 25 to 84", x.count(1), cost + 12 + sum(25, 85));
    }

    private static int sum(int from, int to) {
        int sum = 0;
        for (int hour = from; hour < to; hour++) {
            int ofDay = hour % 24;
            sum += ofDay == 0 ? 5 : ofDay == 1 ? 0 : ofDay == 2 ? 100 : ofDay == 23 ? 7 : 1;
        }
        return sum;
    }

    /** DOORS 0 and 1 at the ends, DOOR 2 at a place between, a TANK for all KINDS at 0 and 2. */
    private static OilLine middle(int measures, int place) {
        OilLine x = Lines.bare(measures);
        x.door(place);
        for (int kind = 0; kind < 8; kind++) {
            x.tank(2, kind, 0, 1000, 500);
        }
        return x;
    }
}
