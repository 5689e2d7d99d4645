/** Promises 1 to 9: a new object, a new line, and all that is told ahead of a PUSH. */
public final class SetupTest {
    private static final int NONE = OilLine.NONE, BAD = OilLine.BAD, STATE = OilLine.STATE, FULL = OilLine.FULL;
    private static final int[] WILD = {Integer.MIN_VALUE, -1, Integer.MAX_VALUE};

    public static void main(String[] args) {
        newObject();
        newLine();
        lineLeavesTables();
        lineTakesBatchesAndCost();
        lineTakesForeign();
        lineTakesWhatLayBeyond();
        doors();
        tanks();
        amountsOfTanks();
        followers();
        graces();
        rates();
        prices();
        wishes();
        wildNumbers();
        Check.end();
    }

    private static void newObject() {
        OilLine x = new OilLine();
        Check.due("1: MEASURES", x.count(5), 20);
        Check.due("1: DOORS", x.count(6), 0);
        Check.due("1: TIME", x.count(0), 0);
        Check.due("1: cost", x.count(1), 0);
        Check.due("1: BATCHES", x.count(2), 1);
        Check.due("1: MIXED", x.count(3), 0);
        Check.due("1: SLOP", x.count(4), 0);
        Check.due("1: LATE", x.count(7), 0);
        Check.due("1: undoable", x.count(8), 0);
        Check.due("1: borders", x.borders(), 0);
        Check.due("1: no door", x.about(0, 0), NONE);
        Check.due("1: no wish", x.wished(0, 0), NONE);
        Check.due("1: undo", x.undo(), STATE);
        for (int m = 0; m < 20; m++) {
            Check.due("1: BATCH", x.at(m, 0), 0);
            Check.due("1: KIND", x.at(m, 1), 0);
            Check.due("1: PURE", x.at(m, 2), NONE);
            Check.due("1: WENT", x.at(m, 3), 0);
        }
        Check.due("1: no MEASURE 20", x.at(20, 0), NONE);
        Check.due("1: price at first", x.price(0, 5), 1);
        Check.due("1: grace at first", x.grace(7, 5), 0);
    }

    private static void newLine() {
        OilLine x = new OilLine();
        Check.due("2: line(3)", x.line(3), BAD);
        Check.due("2: line(121)", x.line(121), BAD);
        Check.due("2: refused, nothing changes", x.count(5), 20);
        Check.due("2: line(4)", x.line(4), 0);
        Check.due("2: 4 MEASURES", x.count(5), 4);
        Check.due("2: line(120)", x.line(120), 0);
        Check.due("2: 120 MEASURES", x.count(5), 120);
        Check.due("2: the last", x.at(119, 0), 0);
        Check.due("2: none beyond", x.at(120, 0), NONE);
    }

    private static void lineLeavesTables() {
        OilLine x = Lines.two(8);
        x.follow(2, 0, 0, 0);
        x.follow(1, 0, 1, 1);
        x.grace(1, 33);
        x.price(5, 44);
        x.rate(0, 7);
        x.wish(1, 0, 3, 0);
        x.wait(9);
        x.push(0, 1, 1, 3);
        Check.due("2: line(8)", x.line(8), 0);
        Check.due("2: no DOORS", x.count(6), 0);
        Check.due("2: TIME 0", x.count(0), 0);
        Check.due("2: no WISHES", x.wished(0, 0), NONE);
        Check.due("2: none LATE", x.count(7), 0);
        Check.due("2: none to take back", x.count(8), 0);
        Check.due("2: undo", x.undo(), STATE);
        Check.due("2: door 0 anew", x.door(0), 0);
        Check.due("2: door 1 anew", x.door(8), 1);
        Check.due("2: RATE anew", x.about(0, 1), 10);
        Check.due("2: no TANK", x.tankOf(0, 1, 0), NONE);
        Check.due("2: tank anew", x.tank(0, 1, 0, 9, 9), 0);
        Check.due("2: tank of 0 anew", x.tank(0, 0, 0, 9, 9), 0);
        Check.due("2: tank of 2 anew", x.tank(0, 2, 0, 9, 9), 0);
        Check.due("2: what came OUT anew", x.tank(1, 0, 0, 9, 0), 0);
        Check.due("2: came 0", x.tankOf(1, 0, 4), 0);
        Check.due("2: MAY stays", x.push(0, 1, 2, 1), -13);
        Check.due("2: push", x.push(0, 1, 1, 2), 1);
        Check.due("2: MIX stays", x.at(1, 2), 0);
        Check.due("2: GRACE stays", x.grace(1, 0), 33);
        Check.due("2: PRICE stays", x.price(5, 0), 44);
    }

    private static void lineTakesBatchesAndCost() {
        OilLine x = Lines.two(8);
        x.push(0, 1, 1, 3);
        x.push(0, 1, 3, 3);
        Check.due("2: cost ahead", x.count(1), 2);
        Check.due("2: SLOP ahead", x.count(4), 0);
        x.line(6);
        Check.due("2: BATCHES", x.count(2), 1);
        Check.due("2: cost of no PUSH", x.count(1), 0);
        Check.due("2: BATCH 1 is no more", x.batch(1, 0), NONE);
        Check.due("2: BATCH 0", x.batch(0, 1), 6);
        Check.due("2: OUT of BATCH 0", x.batch(0, 4), 0);
        x.door(0);
        x.door(6);
        x.tank(0, 1, 0, 9, 9);
        x.push(0, 1, 1, 2);
        Check.due("2: SLOP", x.about(1, 2), 2);
        x.line(6);
        x.door(0);
        x.door(6);
        Check.due("2: SLOP of a new DOOR", x.about(1, 2), 0);
        Check.due("2: SLOP of all", x.count(4), 0);
    }

    private static void lineTakesForeign() {
        OilLine x = Lines.two(6);
        x.follow(1, 0, 1, 1);
        x.grace(1, 100);
        x.push(0, 1, 1, 3);
        x.push(0, 1, 1, 6);
        Check.holds("2: FOREIGN ahead", x.tankOf(1, 1, 1) > 0);
        x.line(6);
        x.door(0);
        x.door(6);
        x.tank(1, 1, 0, 9, 9);
        Check.due("2: none FOREIGN in a new TANK", x.tankOf(1, 1, 1), 0);
    }

    private static void lineTakesWhatLayBeyond() {
        OilLine x = Lines.two(8);
        x.push(0, 1, 3, 8);
        x.line(4);
        x.door(0);
        x.door(4);
        x.tank(0, 0, 0, 9, 9);
        x.follow(0, 3, 0, 0);
        Check.due("2: nothing lies beyond the end", x.push(0, 1, 0, 1), 1);
    }

    private static void doors() {
        OilLine x = new OilLine();
        Check.due("3: door(-1)", x.door(-1), BAD);
        Check.due("3: door(21)", x.door(21), BAD);
        Check.due("3: door(20)", x.door(20), 0);
        Check.due("3: door(20) again", x.door(20), STATE);
        Check.due("3: door(0)", x.door(0), 1);
        Check.due("3: door(5)", x.door(5), 2);
        Check.due("3: door(6)", x.door(6), 3);
        Check.due("3: door(7)", x.door(7), 4);
        Check.due("3: door(8)", x.door(8), 5);
        Check.due("3: a seventh", x.door(9), FULL);
        Check.due("3: STATE ahead of FULL", x.door(5), STATE);
        Check.due("3: BAD ahead of FULL", x.door(21), BAD);
        Check.due("3: six", x.count(6), 6);
        Check.due("3: place", x.about(0, 0), 20);
        Check.due("3: place of the last", x.about(5, 0), 8);
        Check.due("3: RATE at first", x.about(5, 1), 10);
        Check.due("3: SLOP at first", x.about(5, 2), 0);
    }

    private static void tanks() {
        OilLine x = new OilLine();
        x.door(0);
        Check.due("4: no such DOOR", x.tank(1, 0, 0, 1, 0), NONE);
        Check.due("4: DOOR -1", x.tank(-1, 0, 0, 1, 0), NONE);
        Check.due("4: KIND 8", x.tank(0, 8, 0, 1, 0), NONE);
        Check.due("4: KIND -1", x.tank(0, -1, 0, 1, 0), NONE);
        Check.due("4: NONE ahead of BAD", x.tank(1, 0, -1, 1, 0), NONE);
        Check.due("4: LEAST -1", x.tank(0, 7, -1, 1, 0), BAD);
        Check.due("4: LEAST above MOST", x.tank(0, 7, 2, 1, 1), BAD);
        Check.due("4: MOST 10001", x.tank(0, 7, 0, 10001, 0), BAD);
        Check.due("4: MOST -1", x.tank(0, 7, -2, -1, -1), BAD);
        Check.due("4: refused ones make none", x.tankOf(0, 7, 0), NONE);
        Check.due("4: the edges", x.tank(0, 7, 10000, 10000, 10000), 0);
        Check.due("4: amount", x.tankOf(0, 7, 0), 10000);
        Check.due("4: FOREIGN", x.tankOf(0, 7, 1), 0);
        Check.due("4: LEAST", x.tankOf(0, 7, 2), 10000);
        Check.due("4: MOST", x.tankOf(0, 7, 3), 10000);
        Check.due("4: came", x.tankOf(0, 7, 4), 0);
        Check.due("4: it has one", x.tank(0, 7, 0, 1, 0), STATE);
        Check.due("4: BAD ahead of STATE", x.tank(0, 7, 2, 1, 1), BAD);
        Check.due("4: the old one stays", x.tankOf(0, 7, 3), 10000);
        Check.due("4: all 0", x.tank(0, 0, 0, 0, 0), 0);
    }

    private static void amountsOfTanks() {
        OilLine x = new OilLine();
        x.door(0);
        Check.due("4: amount under LEAST", x.tank(0, 1, 5, 9, 4), BAD);
        Check.due("4: amount above MOST", x.tank(0, 1, 5, 9, 10), BAD);
        Check.due("4: amount -1", x.tank(0, 1, 0, 9, -1), BAD);
        Check.due("4: amount is LEAST", x.tank(0, 1, 5, 9, 5), 0);
        Check.due("4: amount is MOST", x.tank(0, 2, 5, 9, 9), 0);
    }

    private static void followers() {
        OilLine x = new OilLine();
        Check.due("5: x 8", x.follow(8, 0, 1, 0), NONE);
        Check.due("5: x -1", x.follow(-1, 0, 1, 0), NONE);
        Check.due("5: y 8", x.follow(0, 8, 1, 0), NONE);
        Check.due("5: y -1", x.follow(0, -1, 1, 0), NONE);
        Check.due("5: NONE ahead of BAD", x.follow(0, 8, 2, 0), NONE);
        Check.due("5: may 2", x.follow(0, 1, 2, 0), BAD);
        Check.due("5: may -1", x.follow(0, 1, -1, 0), BAD);
        Check.due("5: mix -1", x.follow(0, 1, 1, -1), BAD);
        Check.due("5: mix 201", x.follow(0, 1, 1, 201), BAD);
        Check.due("5: BAD ahead of STATE", x.follow(1, 1, 0, 201), BAD);
        Check.due("5: not behind its like", x.follow(1, 1, 0, 0), STATE);
        Check.due("5: behind its like", x.follow(1, 1, 1, 3), 0);
        Check.due("5: mix 200", x.follow(0, 7, 1, 200), 0);
        Check.due("5: may 0", x.follow(7, 0, 0, 0), 0);
        OilLine y = Lines.two(4);
        y.follow(1, 0, 0, 0);
        Check.due("5: 1 not behind 0", y.push(0, 1, 1, 1), -13);
        y.follow(1, 0, 1, 0);
        Check.due("5: 1 behind 0 again", y.push(0, 1, 1, 1), 1);
        y.follow(0, 1, 0, 0);
        Check.due("5: x is the HIND one", y.push(0, 1, 0, 1), -13);
        Check.due("5: the pair alone", y.push(0, 1, 2, 1), 2);
    }

    private static void graces() {
        OilLine x = new OilLine();
        Check.due("6: KIND 8", x.grace(8, 0), NONE);
        Check.due("6: KIND -1", x.grace(-1, 0), NONE);
        Check.due("6: NONE ahead of BAD", x.grace(8, 101), NONE);
        Check.due("6: 101", x.grace(0, 101), BAD);
        Check.due("6: -1", x.grace(0, -1), BAD);
        Check.due("6: at first", x.grace(0, 100), 0);
        Check.due("6: what it was", x.grace(0, 7), 100);
        Check.due("6: of another", x.grace(1, 7), 0);
        Check.due("6: what it was then", x.grace(0, 0), 7);
    }

    private static void rates() {
        OilLine x = new OilLine();
        Check.due("7: no DOOR", x.rate(0, 5), NONE);
        x.door(3);
        Check.due("7: DOOR -1", x.rate(-1, 5), NONE);
        Check.due("7: DOOR 1", x.rate(1, 61), NONE);
        Check.due("7: 0", x.rate(0, 0), BAD);
        Check.due("7: 61", x.rate(0, 61), BAD);
        Check.due("7: at first", x.rate(0, 60), 10);
        Check.due("7: what it was", x.rate(0, 1), 60);
        Check.due("7: about", x.about(0, 1), 1);
    }

    private static void prices() {
        OilLine x = new OilLine();
        Check.due("8: hour -1", x.price(-1, 5), NONE);
        Check.due("8: hour 24", x.price(24, 101), NONE);
        Check.due("8: -1", x.price(0, -1), BAD);
        Check.due("8: 101", x.price(0, 101), BAD);
        Check.due("8: at first", x.price(23, 100), 1);
        Check.due("8: what it was", x.price(23, 0), 100);
        Check.due("8: of another hour", x.price(0, 0), 1);
    }

    private static void wishes() {
        OilLine x = new OilLine();
        x.door(0);
        x.tank(0, 3, 0, 5, 0);
        Check.due("9: DOOR 1", x.wish(1, 3, 1, 1), NONE);
        Check.due("9: DOOR -1", x.wish(-1, 3, 1, 1), NONE);
        Check.due("9: KIND 8", x.wish(0, 8, 1, 1), NONE);
        Check.due("9: KIND -1", x.wish(0, -1, 1, 1), NONE);
        Check.due("9: no TANK", x.wish(0, 2, 1, 1), NONE);
        Check.due("9: NONE ahead of BAD", x.wish(0, 2, 0, 1), NONE);
        Check.due("9: n 0", x.wish(0, 3, 0, 1), BAD);
        Check.due("9: n 1001", x.wish(0, 3, 1001, 1), BAD);
        Check.due("9: by -1", x.wish(0, 3, 1, -1), BAD);
        Check.due("9: by 100001", x.wish(0, 3, 1, 100001), BAD);
        Check.due("9: none yet", x.wished(0, 2), NONE);
        for (int w = 0; w < 20; w++) {
            Check.due("9: number", x.wish(0, 3, w == 0 ? 1 : 1000, w == 0 ? 0 : 100000), w);
        }
        Check.due("9: FULL", x.wish(0, 3, 1, 1), FULL);
        Check.due("9: BAD ahead of FULL", x.wish(0, 3, 0, 1), BAD);
        Check.due("9: NONE ahead of FULL", x.wish(0, 2, 1, 1), NONE);
        Check.due("9: wanting", x.wished(19, 2), 1000);
    }

    private static void wildNumbers() {
        OilLine x = Lines.two(8);
        for (int wild : WILD) {
            Check.due("line", x.line(wild), BAD);
            Check.due("door", x.door(wild), BAD);
            Check.due("tank", x.tank(wild, 0, 0, 1, 0), NONE);
            Check.due("tank", x.tank(0, wild, 0, 1, 0), NONE);
            Check.due("tank", x.tank(0, 0, wild, 1, 0), BAD);
            Check.due("tank", x.tank(0, 0, 0, wild, 0), BAD);
            Check.due("tank", x.tank(0, 0, 0, 1, wild), BAD);
            Check.due("follow", x.follow(wild, 0, 1, 0), NONE);
            Check.due("follow", x.follow(0, wild, 1, 0), NONE);
            Check.due("follow", x.follow(0, 0, wild, 0), BAD);
            Check.due("follow", x.follow(0, 0, 1, wild), BAD);
            Check.due("grace", x.grace(wild, 0), NONE);
            Check.due("grace", x.grace(0, wild), BAD);
            Check.due("rate", x.rate(wild, 1), NONE);
            Check.due("rate", x.rate(0, wild), BAD);
            Check.due("price", x.price(wild, 1), NONE);
            Check.due("price", x.price(0, wild), BAD);
            Check.due("wish", x.wish(wild, 0, 1, 1), NONE);
            Check.due("wish", x.wish(0, wild, 1, 1), NONE);
            Check.due("wish", x.wish(0, 1, wild, 1), BAD);
            Check.due("wish", x.wish(0, 1, 1, wild), BAD);
            Check.due("push", x.push(wild, 1, 1, 1), NONE);
            Check.due("push", x.push(0, wild, 1, 1), NONE);
            Check.due("push", x.push(0, 1, wild, 1), NONE);
            Check.due("push", x.push(0, 1, 1, wild), BAD);
            Check.due("wait", x.wait(wild), BAD);
            Check.due("at", x.at(wild, 0), NONE);
            Check.due("at", x.at(0, wild), NONE);
            Check.due("batch", x.batch(wild, 0), NONE);
            Check.due("batch", x.batch(0, wild), NONE);
            Check.due("tankOf", x.tankOf(wild, 0, 0), NONE);
            Check.due("tankOf", x.tankOf(0, wild, 0), NONE);
            Check.due("tankOf", x.tankOf(0, 0, wild), NONE);
            Check.due("about", x.about(wild, 0), NONE);
            Check.due("about", x.about(0, wild), NONE);
            Check.due("wished", x.wished(wild, 0), NONE);
            Check.due("count", x.count(wild), NONE);
        }
    }
}
