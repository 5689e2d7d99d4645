/**
 * Part 1 and the Terms, with promises 1 to 6 and 14 to 20: for each sentence that names a bound the last number that
 * is taken and the first that is not, on both sides; nothing there, and all that may be there.
 */
public final class LineBoundsTest {
    private static final int NONE = OilLine.NONE, BAD = OilLine.BAD, STATE = OilLine.STATE, FULL = OilLine.FULL;

    public static void main(String[] args) {
        howManyMeasures();
        numbersOfMeasures();
        allAreOfBatchAndKindZero();
        howManyBatches();
        roomForABatchAgain();
        kinds();
        howManyDoors();
        placesOfDoors();
        placesOfAnotherLine();
        noTwoAtOnePlace();
        doorAtBeginAndEnd();
        leastAndMost();
        amountOfTank();
        newTankHasNothingForeign();
        allMayAtFirst();
        noneMixesAtFirst();
        boundsOfMix();
        greatestMixThatCanBeReached();
        likeKinds();
        boundsOfGrace();
        neighbours();
        neighboursBeyondMixed();
        firstMeasureIsNoBorders();
        borders();
        batchThatIsNotThere();
        batchOfOneMeasure();
        doorsOfBatches();
        slopOfEachDoor();
        tanksOfANewLine();
        whats();
        allThatMayBeThere();
        nothingThere();
        objectsStandAlone();
        Check.end();
    }

    /** "4 to 120 of them"; promises 1 and 2. */
    private static void howManyMeasures() {
        OilLine x = new OilLine();
        Check.due("1: at first", x.count(5), 20);
        Check.due("2: line(3)", x.line(3), BAD);
        Check.due("2: 3 is refused", x.count(5), 20);
        Check.due("2: line(121)", x.line(121), BAD);
        Check.due("2: 121 is refused", x.count(5), 20);
        for (int n = 4; n <= 120; n++) {
            Check.due("2: line(" + n + ")", x.line(n), 0);
            Check.due("19: MEASURES", x.count(5), n);
        }
    }

    /** "numbered from 0 (its begin) on". */
    private static void numbersOfMeasures() {
        OilLine x = new OilLine();
        for (int n : new int[] {4, 5, 20, 119, 120}) {
            x.line(n);
            for (int what = 0; what <= 3; what++) {
                int due = what == 2 ? NONE : 0;
                Check.due("14: the first of " + n, x.at(0, what), due);
                Check.due("14: the last of " + n, x.at(n - 1, what), due);
                Check.due("14: ahead of the first", x.at(-1, what), NONE);
                Check.due("14: behind the last of " + n, x.at(n, what), NONE);
            }
        }
    }

    /** "At first all are of BATCH 0, of KIND 0", on a new LINE, too, whatever lay in the old one. */
    private static void allAreOfBatchAndKindZero() {
        OilLine x = Lines.two(120);
        x.follow(1, 0, 1, 1);
        x.push(0, 1, 1, 60);
        x.push(0, 1, 2, 60);
        for (int n : new int[] {4, 120, 7}) {
            x.line(n);
            Check.due("2: BATCHES", x.count(2), 1);
            Check.due("2: all of BATCH 0", x.batch(0, 1), n);
            Check.due("2: from the first", x.batch(0, 2), 0);
            Check.due("2: to the last", x.batch(0, 3), n - 1);
            Check.due("2: none OUT", x.batch(0, 4), 0);
            Check.due("2: KIND of BATCH 0", x.batch(0, 0), 0);
            Check.due("2: none MIXED", x.count(3), 0);
            Check.due("2: no BORDERS", x.borders(), 0);
            Lines.looks("2", x, "0".repeat(n));
        }
    }

    /** "200 BATCHES at most (numbered from 0 on"; promise 10: "FULL: 200 BATCHES". */
    private static void howManyBatches() {
        OilLine x = Lines.two(120);
        for (int b = 1; b <= 199; b++) {
            Check.due("10: BATCH", x.push(0, 1, 1, 1), b);
            Check.due("15: it is there", x.batch(b, 0), 1);
            Check.due("15: the next is not", x.batch(b + 1, 0), NONE);
        }
        Check.due("19: BATCHES", x.count(2), 200);
        Check.due("10: the 201st", x.push(0, 1, 1, 1), FULL);
        Check.due("11: the 201st", x.trial(0, 1, 1, 1), FULL);
        Check.due("19: no BATCH more", x.count(2), 200);
        Check.due("15: BATCH 0", x.batch(0, 4), 120);
        Check.due("15: BATCH 199", x.batch(199, 2), 0);
        for (int what = 0; what <= 5; what++) {
            Check.due("15: BATCH 200", x.batch(200, what), NONE);
            Check.due("15: BATCH -1", x.batch(-1, what), NONE);
        }
    }

    /** A BATCH that is no more leaves its number to the next one; a new LINE has BATCH 0 alone. */
    private static void roomForABatchAgain() {
        OilLine x = Twin.full();
        Check.due("10: FULL", x.push(0, 5, 1, 1), FULL);
        Check.due("12: the last one", x.undo(), 199);
        Check.due("15: is no more", x.batch(199, 0), NONE);
        Check.due("11: there is room", x.trial(0, 5, 2, 1), 199);
        Check.due("10: there is room", x.push(0, 5, 2, 1), 199);
        Check.due("15: another KIND", x.batch(199, 0), 2);
        Check.due("10: FULL again", x.push(0, 5, 1, 1), FULL);
        x.wait(0);
        Check.due("10: still FULL", x.push(0, 5, 1, 1), FULL);
        Check.due("12: none can be taken back", x.undo(), STATE);
        x.line(4);
        x.door(0);
        x.door(4);
        x.tank(0, 5, 0, 1, 1);
        Check.due("2: BATCHES anew", x.push(0, 1, 5, 1), 1);
    }

    /** "a BATCH has a KIND 0 .. 7". */
    private static void kinds() {
        OilLine x = new OilLine();
        x.door(0);
        x.door(20);
        for (int k : new int[] {-1, 8}) {
            Check.due("4: KIND " + k, x.tank(0, k, 0, 9, 9), NONE);
            Check.due("5: x " + k, x.follow(k, 0, 1, 1), NONE);
            Check.due("5: y " + k, x.follow(0, k, 1, 1), NONE);
            Check.due("6: KIND " + k, x.grace(k, 1), NONE);
            Check.due("9: KIND " + k, x.wish(0, k, 1, 1), NONE);
            Check.due("10: KIND " + k, x.push(0, 1, k, 1), NONE);
            Check.due("11: KIND " + k, x.trial(0, 1, k, 1), NONE);
            Check.due("16: KIND " + k, x.tankOf(0, k, 0), NONE);
        }
        int batch = 0;
        for (int k : new int[] {0, 7}) {
            Check.due("4: KIND " + k, x.tank(0, k, 0, 9, 9), 0);
            Check.due("5: x " + k, x.follow(k, 3, 1, 1), 0);
            Check.due("5: y " + k, x.follow(3, k, 1, 1), 0);
            Check.due("6: KIND " + k, x.grace(k, 1), 0);
            Check.due("9: KIND " + k, x.wish(0, k, 1, 1), batch);
            Check.due("11: KIND " + k, x.trial(0, 1, k, 1), batch + 1);
            Check.due("10: KIND " + k, x.push(0, 1, k, 1), ++batch);
            Check.due("14: KIND " + k, x.at(0, 1), k);
            Check.due("15: KIND " + k, x.batch(batch, 0), k);
            Check.due("16: KIND " + k, x.tankOf(0, k, 0), 8);
        }
    }

    /** "DOORS are numbered from 0 on, 6 at most"; promise 3: FULL. */
    private static void howManyDoors() {
        OilLine x = new OilLine();
        Check.due("1: without DOORS", x.count(6), 0);
        Check.due("17: none", x.about(0, 0), NONE);
        for (int d = 0; d < 6; d++) {
            Check.due("17: not yet", x.about(d, 0), NONE);
            Check.due("3: number", x.door(2 * d), d);
            Check.due("17: place", x.about(d, 0), 2 * d);
            Check.due("19: DOORS", x.count(6), d + 1);
        }
        Check.due("3: the seventh", x.door(12), FULL);
        Check.due("19: six", x.count(6), 6);
        Check.due("17: no seventh", x.about(6, 0), NONE);
        x.line(20);
        Check.due("3: anew on a new LINE", x.door(12), 0);
    }

    /** "each at a place, 0 to how many MEASURES there are". */
    private static void placesOfDoors() {
        for (int n : new int[] {4, 20, 120}) {
            OilLine x = new OilLine();
            x.line(n);
            Check.due("3: -1 of " + n, x.door(-1), BAD);
            Check.due("3: beyond " + n, x.door(n + 1), BAD);
            Check.due("3: refused", x.count(6), 0);
            Check.due("3: " + n, x.door(n), 0);
            Check.due("3: 0 of " + n, x.door(0), 1);
            Check.due("3: in front of the last", x.door(n - 1), 2);
            Check.due("17: place of the end", x.about(0, 0), n);
            Check.due("17: place of the begin", x.about(1, 0), 0);
        }
    }

    private static void placesOfAnotherLine() {
        OilLine x = new OilLine();
        x.line(120);
        Check.due("3: 120", x.door(120), 0);
        x.line(4);
        Check.due("3: 5 of 4", x.door(5), BAD);
        Check.due("3: 120 of 4", x.door(120), BAD);
        Check.due("3: 4 of 4", x.door(4), 0);
        x.line(30);
        Check.due("3: 30 of 30", x.door(30), 0);
        Check.due("3: 4 is free again", x.door(4), 1);
    }

    /** "no two at one"; promise 3: "STATE: there is one at it". */
    private static void noTwoAtOnePlace() {
        OilLine x = new OilLine();
        x.line(6);
        for (int place : new int[] {6, 0, 3}) {
            Check.holds("3: the first at " + place, x.door(place) >= 0);
            Check.due("3: a second at " + place, x.door(place), STATE);
        }
        Check.due("3: beside it", x.door(2), 3);
        Check.due("3: beside it, beyond", x.door(4), 4);
    }

    /** "in front of the MEASURE of that number (behind the last one)". */
    private static void doorAtBeginAndEnd() {
        OilLine x = Lines.two(4);
        x.door(1);
        x.door(3);
        x.tank(2, 5, 0, 9, 9);
        x.tank(3, 6, 0, 9, 9);
        Check.due("10: begin to end", x.push(0, 1, 4, 1), 1);
        Lines.looks("10: MEASURE 3 went OUT", x, "4000");
        Check.due("16: of KIND 0", x.tankOf(1, 0, 4), 1);
        Check.due("10: 0 to 1", x.push(0, 2, 1, 1), 2);
        Lines.looks("10: MEASURE 0 alone is another", x, "1000");
        Check.due("17: MEASURE 0 is SLOP at place 1", x.about(2, 2), 1);
        Check.due("10: 3 to 4", x.push(3, 1, 6, 1), 3);
        Lines.looks("10: MEASURE 3 alone is another", x, "1006");
        Check.due("10: 1 to 3", x.push(2, 3, 5, 1), 4);
        Lines.looks("10: MEASURES 1 and 2 alone", x, "1506");
        Check.due("17: MEASURE 2 is SLOP at place 3", x.about(3, 2), 1);
        Check.due("10: begin to end again", x.push(0, 1, 4, 1), 5);
        Lines.looks("10: MEASURE 3 went OUT", x, "4150");
        Check.due("16: of KIND 6", x.tankOf(1, 6, 4), 1);
        Check.due("16: none of KIND 0 more", x.tankOf(1, 0, 4), 2);
    }

    /** "0 <= LEAST <= MOST <= 10000". */
    private static void leastAndMost() {
        OilLine x = new OilLine();
        x.door(0);
        Check.due("4: LEAST -1", x.tank(0, 0, -1, 5, 5), BAD);
        Check.due("4: LEAST 0", x.tank(0, 0, 0, 5, 5), 0);
        Check.due("4: MOST 10001", x.tank(0, 1, 5, 10001, 5), BAD);
        Check.due("4: MOST 10000", x.tank(0, 1, 5, 10000, 5), 0);
        Check.due("4: LEAST one above MOST", x.tank(0, 2, 6, 5, 5), BAD);
        Check.due("4: LEAST is MOST", x.tank(0, 2, 5, 5, 5), 0);
        Check.due("4: both 0", x.tank(0, 3, 0, 0, 0), 0);
        Check.due("4: both 10000", x.tank(0, 4, 10000, 10000, 10000), 0);
        Check.due("4: both 10001", x.tank(0, 5, 10001, 10001, 10001), BAD);
        Check.due("4: both -1", x.tank(0, 5, -1, -1, -1), BAD);
        Check.due("4: all there may be", x.tank(0, 5, 0, 10000, 5000), 0);
        Check.due("16: LEAST", x.tankOf(0, 5, 2), 0);
        Check.due("16: MOST", x.tankOf(0, 5, 3), 10000);
        Check.due("16: LEAST 10000", x.tankOf(0, 4, 2), 10000);
    }

    /** "tanks that may neither run over nor dry": so much that LEAST <= amount <= MOST. */
    private static void amountOfTank() {
        OilLine x = new OilLine();
        x.door(0);
        Check.due("4: one below LEAST", x.tank(0, 0, 3, 7, 2), BAD);
        Check.due("4: one above MOST", x.tank(0, 0, 3, 7, 8), BAD);
        Check.due("16: none was made", x.tankOf(0, 0, 0), NONE);
        Check.due("4: LEAST", x.tank(0, 0, 3, 7, 3), 0);
        Check.due("4: MOST", x.tank(0, 1, 3, 7, 7), 0);
        Check.due("4: -1", x.tank(0, 2, 0, 7, -1), BAD);
        Check.due("4: 0", x.tank(0, 2, 0, 7, 0), 0);
        Check.due("4: 10001", x.tank(0, 3, 0, 10000, 10001), BAD);
        Check.due("4: 10000", x.tank(0, 3, 0, 10000, 10000), 0);
        Check.due("16: LEAST", x.tankOf(0, 0, 0), 3);
        Check.due("16: MOST", x.tankOf(0, 1, 0), 7);
        Check.due("16: 0", x.tankOf(0, 2, 0), 0);
        Check.due("16: 10000", x.tankOf(0, 3, 0), 10000);
    }

    /** Promise 4: "none of it FOREIGN", and nothing came OUT into it, for all TANKS that there may be. */
    private static void newTankHasNothingForeign() {
        OilLine x = new OilLine();
        for (int d = 0; d < 6; d++) {
            x.door(d);
            for (int k = 0; k < 8; k++) {
                Check.due("16: no TANK yet", x.tankOf(d, k, 0), NONE);
                Check.due("4: a TANK", x.tank(d, k, d, 100 + k, 10 * d + k), 0);
                Check.due("4: not two", x.tank(d, k, d, 100 + k, 10 * d + k), STATE);
            }
        }
        for (int d = 0; d < 6; d++) {
            for (int k = 0; k < 8; k++) {
                Check.due("16: amount", x.tankOf(d, k, 0), 10 * d + k);
                Check.due("16: FOREIGN", x.tankOf(d, k, 1), 0);
                Check.due("16: LEAST", x.tankOf(d, k, 2), d);
                Check.due("16: MOST", x.tankOf(d, k, 3), 100 + k);
                Check.due("16: came", x.tankOf(d, k, 4), 0);
            }
        }
    }

    /** "whether x MAY be behind y (at first all MAY)", and each of the 64 pairs by itself. */
    private static void allMayAtFirst() {
        for (int hind = 0; hind < 8; hind++) {
            for (int fore = 0; fore < 8; fore++) {
                OilLine x = filled(4, fore);
                Check.due("5: may at first", x.trial(0, 1, hind, 4), 2);
                Check.due("5: may not", x.follow(hind, fore, 0, 0), hind == fore ? STATE : 0);
                Check.due("5: may not now", x.trial(0, 1, hind, 4), hind == fore ? 2 : -13);
                Check.due("5: may again", x.follow(hind, fore, 1, 0), 0);
                Check.due("5: may now", x.trial(0, 1, hind, 4), 2);
                Check.due("5: the other way", x.follow(fore, hind, 0, 0), hind == fore ? STATE : 0);
                Check.due("5: is another thing", x.trial(0, 1, hind, 4), 2);
            }
        }
    }

    /** "MIX .. (0: never; .. 0 at first)": no pair mixes, and it does not go. */
    private static void noneMixesAtFirst() {
        for (int hind = 0; hind < 8; hind++) {
            for (int fore = 0; fore < 8; fore++) {
                OilLine x = filled(120, fore);
                x.push(0, 1, hind, 60);
                Check.due("5: none MIXED", x.count(3), 0);
                Check.due("14: it WENT 0", x.at(60, 3), 0);
            }
        }
        OilLine y = Lines.two(120);
        y.follow(1, 0, 1, 1);
        y.follow(1, 0, 1, 0);
        y.push(0, 1, 1, 60);
        Check.due("5: 0 again: never", y.count(3), 0);
    }

    /** "0 .. 200". */
    private static void boundsOfMix() {
        OilLine x = Lines.two(8);
        Check.due("5: mix -1", x.follow(1, 0, 1, -1), BAD);
        Check.due("5: mix 201", x.follow(1, 0, 1, 201), BAD);
        Check.due("5: mix 200", x.follow(1, 0, 1, 200), 0);
        x.push(0, 1, 1, 7);
        Check.due("14: it goes", x.at(7, 3), 7);
        Check.due("5: mix 1", x.follow(2, 1, 1, 1), 0);
        x.push(0, 1, 2, 2);
        Lines.looks("5: mix 1", x, "2(21)111111");
        Check.due("5: mix 0", x.follow(2, 1, 1, 0), 0);
        x.push(0, 1, 3, 1);
        Lines.looks("5: mix 0", x, "32(21)11111");
        Check.due("5: may -1", x.follow(1, 0, -1, 0), BAD);
        Check.due("5: may 2", x.follow(1, 0, 2, 0), BAD);
        Check.due("5: may 0", x.follow(1, 0, 0, 0), 0);
        Check.due("5: may 1", x.follow(1, 0, 1, 0), 0);
    }

    /** In 120 MEASURES two go 119 steps together at most: MIX 119 is the greatest that mixes. */
    private static void greatestMixThatCanBeReached() {
        for (int mix = 118; mix <= 121; mix++) {
            OilLine x = Lines.two(120);
            x.follow(1, 0, 1, mix);
            x.push(0, 1, 1, 60);
            x.push(0, 1, 1, 57);
            Check.due("10: 117 steps", x.count(3), 0);
            Check.due("14: it WENT 117", x.at(117, 3), 117);
            x.push(0, 1, 1, 1);
            Check.due("10: 118 steps, MIX " + mix, x.count(3), mix == 118 ? 1 : 0);
            x.push(0, 1, 1, 1);
            Check.due("10: 119 steps, MIX " + mix, x.count(3), mix <= 119 ? 1 : 0);
            Check.due("14: it WENT, MIX " + mix, x.at(119, 3), mix == 118 ? 1 : mix == 119 ? 0 : 119);
            x.push(0, 1, 1, 1);
            Check.due("20: OUT of THE LINE", x.borders(), 0);
        }
    }

    /** Of one KIND there is no BORDER, whatever MIX was told for it. */
    private static void likeKinds() {
        OilLine x = Lines.two(8);
        Check.due("5: x is y, may 1", x.follow(0, 0, 1, 1), 0);
        x.push(0, 1, 0, 4);
        Lines.looks("20: no BORDER", x, "00000000");
        Check.due("14: it WENT 0", x.at(4, 3), 0);
        Check.due("20: no BORDER", x.borders(), 0);
    }

    /** "GRACE .. (0 .. 100; 0 at first)". */
    private static void boundsOfGrace() {
        OilLine x = new OilLine();
        for (int k = 0; k < 8; k++) {
            Check.due("6: -1", x.grace(k, -1), BAD);
            Check.due("6: 101", x.grace(k, 101), BAD);
            Check.due("6: at first", x.grace(k, 100), 0);
            Check.due("6: 100", x.grace(k, 0), 100);
            Check.due("6: 0", x.grace(k, k), 0);
        }
        for (int k = 0; k < 8; k++) {
            Check.due("6: each by itself", x.grace(k, 1), k);
        }
        x.line(4);
        Check.due("2: GRACE stays", x.grace(7, 0), 1);
    }

    /** "LOOKING .. over MIXED ones, the first PURE one is its NEIGHBOUR there": at an end there may be none. */
    private static void neighbours() {
        OilLine x = Lines.two(6);
        x.follow(1, 0, 1, 1);
        x.push(0, 1, 1, 3);
        Lines.looks("14", x, "11(10)(10)00");
        Check.due("20: over two MIXED ones", x.borders(), 1);
        x.follow(1, 0, 1, 0);
        x.push(0, 1, 1, 1);
        Lines.looks("14", x, "111(10)(10)0");
        Check.due("20: the last one is a BORDER's", x.borders(), 1);
        x.push(0, 1, 1, 1);
        Lines.looks("14", x, "1111(10)(10)");
        Check.due("20: no PURE one towards the end", x.borders(), 0);
        x.follow(1, 0, 0, 0);
        Check.due("10: MIXED in front of b's place, without a NEIGHBOUR", x.push(0, 1, 1, 1), 4);
    }

    /** ".. the first PURE one is its NEIGHBOUR there", whatever a MIXED one between is of. */
    private static void neighboursBeyondMixed() {
        OilLine x = Lines.doors(6, 0, 6, 2, 5);
        x.follow(1, 0, 1, 1);
        x.push(0, 1, 1, 3);
        x.follow(1, 0, 1, 0);
        x.push(2, 1, 0, 1);
        Lines.looks("14", x, "110(10)(10)0");
        Check.due("20: 1 and 0; of one KIND over MIXED ones, and MIXED ones themselves, are none", x.borders(), 1);
        x.undo();
        x.push(0, 1, 1, 1);
        Lines.looks("14", x, "111(10)(10)0");
        x.follow(1, 0, 0, 0);
        Check.due("10: the last MEASURE is a NEIGHBOUR", x.push(0, 3, 1, 1), -13);
        OilLine y = Lines.doors(6, 0, 6, 1);
        y.follow(1, 0, 1, 1);
        y.push(0, 1, 1, 2);
        Lines.looks("14", y, "1(10)0000");
        Check.due("20: MEASURE 0 is a NEIGHBOUR", y.borders(), 1);
        y.follow(1, 3, 0, 0);
        Check.due("10: MEASURE 0 is a NEIGHBOUR", y.push(2, 1, 3, 1), -13);
    }

    /** A BORDER has a NEIGHBOUR "towards the begin": MEASURE 0 has none. */
    private static void firstMeasureIsNoBorders() {
        OilLine x = Lines.two(4);
        x.follow(1, 0, 1, 9);
        x.push(0, 1, 1, 1);
        Check.due("14: MEASURE 0", x.at(0, 3), 0);
        Check.due("14: MEASURE 1", x.at(1, 3), 1);
        Check.due("20: one", x.borders(), 1);
        Check.due("10: nothing is behind it", x.follow(0, 1, 0, 0), 0);
        Check.due("10: so it may", x.trial(0, 1, 1, 1), 2);
    }

    /** "with a PURE NEIGHBOUR x towards the begin of another KIND": none, each, and like BATCHES. */
    private static void borders() {
        OilLine x = Lines.two(120);
        Check.due("20: none", x.borders(), 0);
        for (int b = 1; b <= 119; b++) {
            x.push(0, 1, b % 8, 1);
            Check.due("20: one more", x.borders(), b);
        }
        x.push(0, 1, 0, 1);
        Check.due("20: all but MEASURE 0", x.borders(), 119);
        x.push(0, 1, 0, 1);
        Check.due("20: a like BATCH", x.borders(), 118);
        OilLine y = Lines.two(4);
        y.push(0, 1, 0, 2);
        Check.due("20: two BATCHES of one KIND", y.borders(), 0);
    }

    /** Promise 15: "1 how many MEASURES of it lie in THE LINE .. 2 the least of these (NONE), 3 the greatest". */
    private static void batchThatIsNotThere() {
        OilLine x = Lines.two(120);
        x.push(0, 1, 1, 60);
        x.push(0, 1, 1, 59);
        Check.due("15: one is left", x.batch(0, 1), 1);
        Check.due("15: the last one is the least", x.batch(0, 2), 119);
        Check.due("15: and the greatest", x.batch(0, 3), 119);
        x.push(0, 1, 1, 1);
        Check.due("15: none is left", x.batch(0, 1), 0);
        Check.due("15: no least", x.batch(0, 2), NONE);
        Check.due("15: no greatest", x.batch(0, 3), NONE);
        Check.due("15: all went OUT", x.batch(0, 4), 120);
        Check.due("15: it is a BATCH still", x.batch(0, 0), 0);
        x.line(4);
        x.door(0);
        x.door(4);
        x.tank(0, 1, 0, 9, 9);
        x.tank(0, 2, 0, 9, 9);
        x.push(0, 1, 1, 1);
        x.push(0, 1, 2, 4);
        Check.due("15: what lay beyond in an older LINE is none", x.batch(1, 2), NONE);
        Check.due("15: nor the greatest", x.batch(1, 3), NONE);
        Check.due("15: nor one of them", x.batch(1, 1), 0);
    }

    private static void batchOfOneMeasure() {
        OilLine x = Lines.two(4);
        x.push(0, 1, 1, 1);
        for (int place = 0; place < 4; place++) {
            Check.due("15: one", x.batch(1, 1), 1);
            Check.due("15: the least", x.batch(1, 2), place);
            Check.due("15: the greatest", x.batch(1, 3), place);
            Check.due("15: none OUT", x.batch(1, 4), 0);
            x.push(0, 1, 2, 1);
        }
        Check.due("15: none", x.batch(1, 1), 0);
        Check.due("15: OUT", x.batch(1, 4), 1);
    }

    /** Promise 15: "5 the DOOR from which it came (NONE: 0)": BATCH 0 came from none. */
    private static void doorsOfBatches() {
        OilLine x = Lines.doors(20, 0, 4, 8, 12, 16, 20);
        Check.due("15: of BATCH 0", x.batch(0, 5), NONE);
        for (int d = 4; d >= 0; d--) {
            int batch = x.push(d, 5, d, 1);
            Check.due("15: DOOR of BATCH " + batch, x.batch(batch, 5), d);
            Check.due("15: its KIND", x.batch(batch, 0), d);
        }
        Check.due("15: still", x.batch(1, 5), 4);
        Check.due("15: BATCH 0 still", x.batch(0, 5), NONE);
        x.line(4);
        Check.due("15: on a new LINE", x.batch(0, 5), NONE);
    }

    /** Promises 17 and 19: SLOP is that of the DOOR at which it came OUT, and of all together. */
    private static void slopOfEachDoor() {
        OilLine x = new OilLine();
        int[] places = {18, 15, 12, 9, 6, 0};
        for (int place : places) {
            x.door(place);
        }
        x.tank(5, 0, 0, 99, 99);
        int sum = 0;
        for (int d = 0; d < 5; d++) {
            x.push(5, d, 0, d + 1);
            sum += d + 1;
            Check.due("19: SLOP of all", x.count(4), sum);
        }
        for (int d = 0; d < 5; d++) {
            Check.due("17: SLOP of DOOR " + d, x.about(d, 2), d + 1);
        }
        Check.due("17: no SLOP of a", x.about(5, 2), 0);
        x.line(20);
        for (int d = 0; d < 6; d++) {
            x.door(places[d]);
            Check.due("17: SLOP of a new DOOR", x.about(d, 2), 0);
            Check.due("17: RATE of a new DOOR", x.about(d, 1), 10);
        }
        Check.due("19: SLOP of none", x.count(4), 0);
    }

    /** Promise 2: "without DOORS", so without TANKS; a TANK built anew there has nothing of the old one. */
    private static void tanksOfANewLine() {
        OilLine x = Lines.doors(8, 0, 8, 4);
        x.follow(1, 0, 1, 1);
        x.grace(1, 100);
        x.push(0, 1, 1, 4);
        x.push(0, 1, 1, 8);
        Check.holds("16: FOREIGN ahead", x.tankOf(1, 1, 1) > 0);
        Check.holds("16: came ahead", x.tankOf(1, 0, 4) > 0);
        x.line(8);
        for (int d = 0; d < 3; d++) {
            x.door(d);
            for (int k = 0; k < 8; k++) {
                Check.due("16: no TANK", x.tankOf(d, k, 0), NONE);
                Check.due("9: no TANK", x.wish(d, k, 1, 1), NONE);
                Check.due("4: a TANK", x.tank(d, k, 1, 3, 2), 0);
                Check.due("16: amount", x.tankOf(d, k, 0), 2);
                Check.due("16: FOREIGN", x.tankOf(d, k, 1), 0);
                Check.due("16: came", x.tankOf(d, k, 4), 0);
            }
        }
    }

    /** Each promise's last 'what' is answered and the first beyond it is not, where all that may be is there. */
    private static void whats() {
        OilLine x = Twin.full();
        for (int what = 0; what <= 5; what++) {
            Check.holds("15: what " + what, x.batch(199, what) != NONE);
        }
        for (int what = 0; what <= 4; what++) {
            Check.holds("16: what " + what, x.tankOf(5, 1, what) != NONE);
        }
        for (int what = 0; what <= 2; what++) {
            Check.holds("17: what " + what, x.about(5, what) != NONE);
            Check.holds("18: what " + what, x.wished(0, what) != NONE);
        }
        for (int what = 0; what <= 8; what++) {
            Check.holds("19: what " + what, x.count(what) != NONE);
        }
        Check.due("14: what 3", x.at(0, 3), 0);
        Check.due("14: what 4", x.at(0, 4), NONE);
        Check.due("15: what 6", x.batch(199, 6), NONE);
        Check.due("16: what 5", x.tankOf(5, 1, 5), NONE);
        Check.due("17: what 3", x.about(5, 3), NONE);
        Check.due("18: what 3", x.wished(0, 3), NONE);
        Check.due("19: what 9", x.count(9), NONE);
    }

    /** The last DOOR, BATCH and WISH that there may be, and none beyond. */
    private static void allThatMayBeThere() {
        OilLine x = Twin.full();
        Check.due("17: the last DOOR", x.about(5, 0), 6);
        Check.due("17: one beyond", x.about(6, 0), NONE);
        Check.due("16: one beyond", x.tankOf(6, 1, 0), NONE);
        Check.due("15: the last BATCH", x.batch(199, 0), 2);
        Check.due("15: one beyond", x.batch(200, 0), NONE);
        Check.due("18: the last WISH", x.wished(19, 2), 191 - x.tankOf(5, 1, 4));
        Check.due("18: one beyond", x.wished(20, 2), NONE);
    }

    /** Promise 1, and a new LINE after all there may be. */
    private static void nothingThere() {
        OilLine used = Twin.full();
        used.line(20);
        for (OilLine x : new OilLine[] {new OilLine(), used}) {
            for (int what = 0; what <= 8; what++) {
                int due = what == 2 ? 1 : what == 5 ? 20 : 0;
                Check.due("1: count(" + what + ")", x.count(what), due);
            }
            Check.due("1: BATCH 1", x.batch(1, 0), NONE);
            Check.due("1: BATCH 0 came from no DOOR", x.batch(0, 5), NONE);
            Check.due("1: DOOR 0", x.about(0, 0), NONE);
            Check.due("1: TANK", x.tankOf(0, 0, 0), NONE);
            Check.due("1: tank()", x.tank(0, 0, 0, 1, 1), NONE);
            Check.due("1: rate()", x.rate(0, 1), NONE);
            Check.due("1: wish()", x.wish(0, 0, 1, 1), NONE);
            Check.due("1: push()", x.push(0, 1, 0, 1), NONE);
            Check.due("1: push() to itself", x.push(0, 0, 0, 1), NONE);
            Check.due("1: trial()", x.trial(0, 1, 0, 1), NONE);
            Check.due("1: WISH 0", x.wished(0, 0), NONE);
            Check.due("1: undo()", x.undo(), STATE);
            Check.due("1: borders()", x.borders(), 0);
        }
    }

    private static void objectsStandAlone() {
        OilLine x = Twin.rich();
        String ahead = Twin.all(x);
        OilLine y = new OilLine();
        Check.due("1: GRACE of its own", y.grace(7, 3), 0);
        Check.due("1: PRICE of its own", y.price(23, 3), 1);
        y.line(4);
        y.wait(5);
        Check.holds("1: the other is as it was", Twin.all(x).equals(ahead));
        Check.due("1: its GRACE, too", x.grace(7, 0), 100);
    }

    /** A LINE full of BATCH 1 of that KIND. */
    private static OilLine filled(int measures, int kind) {
        OilLine x = Lines.two(measures);
        int batch = 0;
        for (int left = measures; left > 0; left -= 60) {
            Check.due("fill", x.push(0, 1, kind, Math.min(60, left)), ++batch);
        }
        return x;
    }
}
