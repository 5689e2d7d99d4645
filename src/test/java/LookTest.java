/** Promises 14 to 20: what is where. */
public final class LookTest {
    private static final int NONE = OilLine.NONE;

    public static void main(String[] args) {
        measures();
        batches();
        tanks();
        doors();
        wishes();
        wishesToldLater();
        lateWishes();
        twentyWishes();
        counts();
        slopOfFirstDoor();
        borders();
        Check.end();
    }

    private static OilLine mixed() {
        OilLine x = Lines.two(8);
        x.follow(1, 0, 1, 2);
        x.push(0, 1, 1, 4);
        Lines.looks("14", x, "111(10)(10)000");
        return x;
    }

    private static void measures() {
        OilLine x = mixed();
        Check.due("14: BATCH", x.at(2, 0), 1);
        Check.due("14: BATCH of a MIXED one", x.at(3, 0), 1);
        Check.due("14: BATCH of the other", x.at(4, 0), 0);
        Check.due("14: KIND", x.at(0, 1), 1);
        Check.due("14: HIND", x.at(4, 1), 1);
        Check.due("14: FORE", x.at(3, 2), 0);
        Check.due("14: PURE", x.at(5, 2), NONE);
        Check.due("14: WENT", x.at(5, 3), 0);
        x.push(0, 1, 3, 1);
        Check.due("14: WENT 1", x.at(6, 3), 1);
        Check.due("14: of HIND", x.at(3, 3), 0);
        Check.due("14: of a MIXED one", x.at(5, 3), 0);
        Check.due("14: what 4", x.at(0, 4), NONE);
        Check.due("14: what -1", x.at(0, -1), NONE);
        Check.due("14: MEASURE -1", x.at(-1, 0), NONE);
        Check.due("14: MEASURE 7", x.at(7, 0), 0);
        Check.due("14: MEASURE 8", x.at(8, 0), NONE);
    }

    private static void batches() {
        OilLine x = mixed();
        Check.due("15: KIND", x.batch(1, 0), 1);
        Check.due("15: MEASURES, MIXED too", x.batch(1, 1), 4);
        Check.due("15: of BATCH 0", x.batch(0, 1), 4);
        Check.due("15: least", x.batch(0, 2), 4);
        Check.due("15: greatest", x.batch(0, 3), 7);
        Check.due("15: least of 1", x.batch(1, 2), 0);
        Check.due("15: greatest of 1", x.batch(1, 3), 3);
        Check.due("15: OUT", x.batch(0, 4), 4);
        Check.due("15: none OUT", x.batch(1, 4), 0);
        Check.due("15: from no DOOR", x.batch(0, 5), NONE);
        Check.due("15: from DOOR 0", x.batch(1, 5), 0);
        x.push(0, 1, 2, 1);
        Check.due("15: one MEASURE is the least", x.batch(2, 2), 0);
        Check.due("15: and the greatest", x.batch(2, 3), 0);
        x.undo();
        x.push(0, 1, 2, 10);
        Check.due("15: none lies there", x.batch(0, 1), 0);
        Check.due("15: no least", x.batch(0, 2), NONE);
        Check.due("15: no greatest", x.batch(0, 3), NONE);
        Check.due("15: all OUT", x.batch(0, 4), 8);
        Check.due("15: MIXED ones OUT", x.batch(1, 4), 4);
        Check.due("15: BATCH 3", x.batch(3, 0), NONE);
        Check.due("15: BATCH -1", x.batch(-1, 0), NONE);
        Check.due("15: what 6", x.batch(0, 6), NONE);
        Check.due("15: what -1", x.batch(0, -1), NONE);
        x.door(4);
        x.tank(2, 5, 0, 9, 9);
        Check.due("15: push", x.push(2, 1, 5, 2), 3);
        Check.due("15: from DOOR 2", x.batch(3, 5), 2);
        Check.due("15: BATCH 2 in two parts", x.batch(2, 1), 6);
        Check.due("15: its least", x.batch(2, 2), 0);
        Check.due("15: its greatest", x.batch(2, 3), 7);
    }

    private static void tanks() {
        OilLine x = Lines.bare(4);
        x.tank(1, 0, 1, 9, 2);
        x.push(0, 1, 1, 3);
        Check.due("16: amount", x.tankOf(1, 0, 0), 5);
        Check.due("16: FOREIGN", x.tankOf(1, 0, 1), 0);
        Check.due("16: LEAST", x.tankOf(1, 0, 2), 1);
        Check.due("16: MOST", x.tankOf(1, 0, 3), 9);
        Check.due("16: came", x.tankOf(1, 0, 4), 3);
        Check.due("16: came into a's", x.tankOf(0, 1, 4), 0);
        Check.due("16: what 5", x.tankOf(1, 0, 5), NONE);
        Check.due("16: what -1", x.tankOf(1, 0, -1), NONE);
        Check.due("16: no TANK", x.tankOf(1, 1, 0), NONE);
        Check.due("16: KIND 8", x.tankOf(0, 8, 0), NONE);
        Check.due("16: KIND -1", x.tankOf(1, -1, 0), NONE);
        Check.due("16: DOOR 2", x.tankOf(2, 0, 0), NONE);
        Check.due("16: DOOR -1", x.tankOf(-1, 0, 0), NONE);
    }

    private static void doors() {
        OilLine x = Lines.bare(4);
        x.rate(1, 33);
        x.push(0, 1, 1, 3);
        Check.due("17: place", x.about(1, 0), 4);
        Check.due("17: RATE", x.about(1, 1), 33);
        Check.due("17: SLOP", x.about(1, 2), 3);
        Check.due("17: what 3", x.about(1, 3), NONE);
        Check.due("17: what -1", x.about(1, -1), NONE);
        Check.due("17: DOOR 2", x.about(2, 0), NONE);
        Check.due("17: DOOR -1", x.about(-1, 0), NONE);
    }

    private static void wishes() {
        OilLine x = Lines.two(6);
        Check.due("18: none", x.wished(0, 0), NONE);
        x.wish(1, 0, 4, 1);
        x.wish(1, 1, 1, 3);
        x.push(0, 1, 1, 3);
        Check.due("18: not yet", x.wished(0, 0), NONE);
        Check.due("18: not LATE", x.wished(0, 1), 0);
        Check.due("18: wanting", x.wished(0, 2), 1);
        x.push(0, 1, 1, 1);
        Check.due("18: KEPT", x.wished(0, 0), 2);
        Check.due("18: LATE", x.wished(0, 1), 1);
        Check.due("18: none wanting", x.wished(0, 2), 0);
        x.push(0, 1, 1, 31);
        Check.due("18: KEPT once", x.wished(0, 0), 2);
        Check.due("18: no later then", x.wished(0, 1), 1);
        Check.due("18: not less than none wanting", x.wished(0, 2), 0);
        Check.due("18: at the end of the PUSH", x.wished(1, 0), 6);
        Check.due("18: LATE by 3", x.wished(1, 1), 3);
        Check.due("18: what 3", x.wished(0, 3), NONE);
        Check.due("18: what -1", x.wished(0, -1), NONE);
        Check.due("18: WISH 2", x.wished(2, 0), NONE);
        Check.due("18: WISH -1", x.wished(-1, 0), NONE);
    }

    /** What came ahead of a WISH is not for it; FOREIGN ones are; what goes out of the TANK again is, too. */
    private static void wishesToldLater() {
        OilLine x = Lines.two(6);
        x.push(0, 1, 1, 2);
        x.wish(1, 0, 2, 9);
        Check.due("18: all wanting", x.wished(0, 2), 2);
        x.push(0, 1, 1, 1);
        Check.due("18: one wanting", x.wished(0, 2), 1);
        OilLine y = mixed();
        y.grace(1, 100);
        y.push(0, 1, 1, 3);
        y.wish(1, 1, 1, 9);
        y.push(0, 1, 1, 1);
        Check.due("18: FOREIGN", y.tankOf(1, 1, 1), 1);
        Check.due("18: KEPT by a MIXED one", y.wished(0, 0), 3);
    }

    private static void lateWishes() {
        OilLine x = Lines.two(6);
        x.wish(1, 0, 1, 10);
        x.wish(1, 0, 100, 0);
        x.wait(10);
        Check.due("18: at its TIME", x.wished(0, 1), 0);
        x.wait(5);
        Check.due("18: beyond", x.wished(0, 1), 5);
        Check.due("19: of all", x.count(7), 20);
        x.push(0, 1, 1, 1);
        Check.due("18: KEPT then", x.wished(0, 0), 16);
        x.wait(100);
        Check.due("18: it stays LATE", x.wished(0, 1), 6);
        Check.due("18: the other goes on", x.wished(1, 1), 116);
        Check.due("19: of all then", x.count(7), 122);
    }

    private static void twentyWishes() {
        OilLine x = Lines.two(6);
        for (int w = 0; w < 20; w++) {
            x.wish(1, 0, 1 + w, 0);
        }
        Check.due("18: a PUSH for twenty", x.push(0, 1, 1, 6), 1);
        Check.due("18: KEPT", x.wished(5, 0), 1);
        Check.due("18: not yet", x.wished(6, 0), NONE);
        Check.due("18: the last", x.wished(19, 2), 14);
        Check.due("19: each LATE by 1", x.count(7), 20);
    }

    private static void slopOfFirstDoor() {
        OilLine x = new OilLine();
        x.door(20);
        x.door(0);
        x.tank(1, 1, 0, 9, 9);
        x.push(1, 0, 1, 2);
        Check.due("19: SLOP of DOOR 0", x.count(4), 2);
    }

    private static void counts() {
        OilLine x = mixed();
        Check.due("19: two MIXED", x.count(3), 2);
        x.price(1, 9);
        x.door(4);
        x.push(0, 2, 6, 4);
        Check.due("19: TIME", x.count(0), 2);
        Check.due("19: cost", x.count(1), 10);
        Check.due("19: BATCHES", x.count(2), 3);
        Check.due("19: MIXED", x.count(3), 1);
        Check.due("19: SLOP", x.count(4), 4);
        Check.due("19: MEASURES", x.count(5), 8);
        Check.due("19: DOORS", x.count(6), 3);
        Check.due("19: LATE", x.count(7), 0);
        Check.due("19: undoable", x.count(8), 1);
        x.push(0, 1, 6, 4);
        Check.due("19: SLOP of all DOORS", x.count(4), 4 + x.about(1, 2));
        Check.due("19: the MIXED one is SLOP of DOOR 1", x.about(1, 2), 1);
        Check.due("19: two undoable", x.count(8), 2);
        Check.due("19: 9", x.count(9), NONE);
        Check.due("19: -1", x.count(-1), NONE);
    }

    private static void borders() {
        OilLine x = Lines.two(8);
        Check.due("20: none", x.borders(), 0);
        x.push(0, 1, 0, 2);
        Check.due("20: like BATCHES", x.borders(), 0);
        x.push(0, 1, 1, 2);
        Check.due("20: one", x.borders(), 1);
        x.push(0, 1, 2, 1);
        x.push(0, 1, 1, 1);
        Check.due("20: three", x.borders(), 3);
        OilLine y = mixed();
        Check.due("20: over MIXED ones", y.borders(), 1);
        y.follow(1, 0, 1, 0);
        y.push(0, 1, 1, 3);
        Lines.looks("20", y, "111111(10)(10)");
        Check.due("20: MIXED ones at the end", y.borders(), 0);
    }
}
