import java.util.function.Supplier;

/**
 * Part 3, with promises 7 to 9, 12, 13, 18 and 19: for each sentence that names a bound of RATE, TIME, PRICE, WISHES
 * and UNDO the last number that is taken and the first that is not, on both sides.
 */
public final class TimeBoundsTest {
    private static final int NONE = OilLine.NONE, BAD = OilLine.BAD, STATE = OilLine.STATE, FULL = OilLine.FULL;

    public static void main(String[] args) {
        boundsOfRate();
        hoursOfAPush();
        timeAtFirst();
        boundsOfPrice();
        hourOfTheDay();
        dearestAndCheapest();
        boundsOfWait();
        longestTime();
        howManyWishes();
        boundsOfWishes();
        keptByAsMany();
        keptByTheMost();
        keptByTheFirstPush();
        sinceItWasTold();
        whatCountsForAWish();
        lateByTheHour();
        lateByTheGreatestTime();
        lateOfAll();
        undoOfNothing();
        undoOfAll();
        undoBringsAllBack();
        undoOfTheLatest();
        whatEndsUndo();
        whatDoesNotEndUndo();
        Check.end();
    }

    /** "A DOOR has a RATE (1 .. 60 MEASURES an hour, 10 at first)". */
    private static void boundsOfRate() {
        OilLine x = Lines.doors(20, 0, 4, 8, 12, 16, 20);
        for (int d = 0; d < 6; d++) {
            Check.due("17: at first", x.about(d, 1), 10);
            Check.due("7: 0", x.rate(d, 0), BAD);
            Check.due("7: 61", x.rate(d, 61), BAD);
            Check.due("7: 1", x.rate(d, 1), 10);
            Check.due("17: 1", x.about(d, 1), 1);
            Check.due("7: 60", x.rate(d, 60), 1);
            Check.due("17: 60", x.about(d, 1), 60);
            Check.due("7: each by itself", x.rate(d, 20 + d), 60);
        }
        for (int d = 0; d < 6; d++) {
            Check.due("17: each by itself", x.about(d, 1), 20 + d);
        }
        Check.due("7: DOOR 6", x.rate(6, 5), NONE);
        Check.due("7: DOOR -1", x.rate(-1, 5), NONE);
    }

    /** "a PUSH takes as many hours as n by the lesser RATE of its DOORS, up", for each n and each RATE. */
    private static void hoursOfAPush() {
        for (int r = 1; r <= 60; r++) {
            OilLine x = new OilLine();
            x.door(0);
            x.door(20);
            x.tank(0, 1, 0, 10000, 10000);
            x.rate(0, r);
            x.rate(1, 60);
            pushEach(x, r);
            x.rate(0, 60);
            x.rate(1, r);
            pushEach(x, r);
        }
    }

    private static void pushEach(OilLine x, int rate) {
        for (int n = 1; n <= 60; n++) {
            int ahead = x.count(0);
            x.push(0, 1, 1, n);
            int hours = n % rate == 0 ? n / rate : n / rate + 1;
            Check.due("10: hours of " + n + " by " + rate, x.count(0) - ahead, hours);
        }
    }

    /** "TIME is 0 at first", and on a new LINE. */
    private static void timeAtFirst() {
        OilLine x = Lines.two(4);
        Check.due("1: TIME", new OilLine().count(0), 0);
        x.push(0, 1, 1, 60);
        x.wait(3);
        Check.due("19: TIME", x.count(0), 9);
        x.line(4);
        Check.due("2: TIME 0", x.count(0), 0);
        Check.due("13: from there on", x.wait(1), 1);
    }

    /** "PRICE .. (0 .. 100, 1 at first)"; promise 8: "NONE: not 0 .. 23". */
    private static void boundsOfPrice() {
        OilLine x = new OilLine();
        Check.due("8: hour -1", x.price(-1, 1), NONE);
        Check.due("8: hour 24", x.price(24, 1), NONE);
        for (int h = 0; h <= 23; h++) {
            Check.due("8: -1", x.price(h, -1), BAD);
            Check.due("8: 101", x.price(h, 101), BAD);
            Check.due("8: at first", x.price(h, 0), 1);
            Check.due("8: 0", x.price(h, 100), 0);
            Check.due("8: 100", x.price(h, 40 + h), 100);
        }
        x.line(4);
        for (int h = 0; h <= 23; h++) {
            Check.due("8: each by itself, and it stays", x.price(h, 1), 40 + h);
        }
    }

    /** "the PRICE of the hour of the day, TIME of its begin modulo 24". */
    private static void hourOfTheDay() {
        for (int begin = 0; begin <= 73; begin++) {
            OilLine x = priced();
            x.wait(begin);
            x.push(0, 1, 1, 1);
            Check.due("10: an hour from " + begin + " on", x.count(1), 10 + begin % 24);
            x.push(0, 1, 1, 30);
            int due = 0;
            for (int hour = begin; hour < begin + 4; hour++) {
                due += 10 + hour % 24;
            }
            Check.due("10: three hours more from " + begin + " on", x.count(1), due);
            Check.due("19: TIME", x.count(0), begin + 4);
        }
        OilLine y = priced();
        y.wait(1000);
        y.push(0, 1, 1, 1);
        Check.due("10: 1000 modulo 24 is 16", y.count(1), 26);
    }

    /** The PRICE of each hour is 10 more than its number. */
    private static OilLine priced() {
        OilLine x = Lines.two(6);
        for (int h = 0; h < 24; h++) {
            x.price(h, 10 + h);
        }
        return x;
    }

    private static void dearestAndCheapest() {
        OilLine x = Lines.two(6);
        x.rate(0, 1);
        x.push(0, 1, 1, 60);
        Check.due("10: at first each hour costs 1", x.count(1), 60);
        for (int h = 0; h < 24; h++) {
            x.price(h, 100);
        }
        x.push(0, 1, 1, 60);
        Check.due("10: 60 hours by 100", x.count(1), 6060);
        for (int h = 0; h < 24; h++) {
            x.price(h, 0);
        }
        x.push(0, 1, 1, 60);
        Check.due("10: 60 hours by 0", x.count(1), 6060);
        Check.due("19: TIME", x.count(0), 180);
    }

    /** Promise 13: "So many hours go by (0 .. 1000): TIME. BAD." */
    private static void boundsOfWait() {
        OilLine x = priced();
        Check.due("13: -1", x.wait(-1), BAD);
        Check.due("13: 1001", x.wait(1001), BAD);
        Check.due("19: refused", x.count(0), 0);
        Check.due("13: 0", x.wait(0), 0);
        Check.due("13: 1", x.wait(1), 1);
        Check.due("13: 1000", x.wait(1000), 1001);
        Check.due("13: 0 again", x.wait(0), 1001);
        Check.due("19: TIME", x.count(0), 1001);
        Check.due("19: it costs nothing", x.count(1), 0);
    }

    /** No run of 512 calls comes to a greater TIME. */
    private static void longestTime() {
        OilLine x = new OilLine();
        for (int i = 1; i <= 511; i++) {
            Check.due("13: TIME", x.wait(1000), 1000 * i);
        }
        Check.due("19: TIME", x.count(0), 511000);
    }

    /** "WISHES are numbered from 0 on, 20 at most"; promise 9: FULL. */
    private static void howManyWishes() {
        OilLine x = Lines.two(6);
        Check.due("18: none", x.wished(0, 2), NONE);
        for (int w = 0; w < 20; w++) {
            Check.due("18: not yet", x.wished(w, 2), NONE);
            Check.due("9: number", x.wish(1, 0, 1 + w, 0), w);
            Check.due("18: it is there", x.wished(w, 2), 1 + w);
        }
        Check.due("9: the 21st", x.wish(1, 0, 1, 0), FULL);
        Check.due("18: no 21st", x.wished(20, 2), NONE);
        Check.due("18: -1", x.wished(-1, 2), NONE);
        x.push(0, 1, 1, 60);
        Check.due("9: KEPT ones are there still", x.wish(1, 0, 1, 0), FULL);
        x.line(6);
        Check.due("2: without WISHES", x.wished(0, 2), NONE);
        x.door(0);
        x.tank(0, 0, 0, 1, 1);
        Check.due("9: anew", x.wish(0, 0, 5, 0), 0);
        Check.due("18: not KEPT", x.wished(0, 0), NONE);
        Check.due("18: all wanting", x.wished(0, 2), 5);
    }

    /** Promise 9: "BAD: n not 1 .. 1000, by not 0 .. 100000". */
    private static void boundsOfWishes() {
        OilLine x = Lines.two(6);
        Check.due("9: n 0", x.wish(1, 0, 0, 5), BAD);
        Check.due("9: n 1001", x.wish(1, 0, 1001, 5), BAD);
        Check.due("9: by -1", x.wish(1, 0, 5, -1), BAD);
        Check.due("9: by 100001", x.wish(1, 0, 5, 100001), BAD);
        Check.due("9: refused", x.wished(0, 0), NONE);
        Check.due("9: n 1", x.wish(1, 0, 1, 5), 0);
        Check.due("9: n 1000", x.wish(1, 0, 1000, 5), 1);
        Check.due("9: by 0", x.wish(1, 0, 5, 0), 2);
        Check.due("9: by 100000", x.wish(1, 0, 5, 100000), 3);
        Check.due("9: both least", x.wish(1, 0, 1, 0), 4);
        Check.due("9: both most", x.wish(1, 0, 1000, 100000), 5);
        x.wait(9);
        Check.due("9: by a TIME that is over", x.wish(1, 0, 1, 2), 6);
        Check.due("18: LATE from the first", x.wished(6, 1), 7);
        Check.due("9: no such TANK", Lines.bare(6).wish(1, 0, 1, 5), NONE);
    }

    /** "KEPT at the end of the first PUSH by which so many came OUT into that TANK". */
    private static void keptByAsMany() {
        for (int n = 1; n <= 60; n++) {
            OilLine x = Lines.two(120);
            x.wish(1, 0, n, 3);
            if (n > 1) {
                x.push(0, 1, 1, n - 1);
                Check.due("18: one less than " + n, x.wished(0, 0), NONE);
                Check.due("18: 1 wanting", x.wished(0, 2), 1);
                x.undo();
            }
            Check.due("18: all wanting", x.wished(0, 2), n);
            x.push(0, 1, 1, n);
            Check.due("18: at the end of a PUSH of " + n, x.wished(0, 0), x.count(0));
            Check.due("18: none wanting", x.wished(0, 2), 0);
            Check.due("18: LATE", x.wished(0, 1), Math.max(0, (n + 9) / 10 - 3));
        }
    }

    private static void keptByTheMost() {
        OilLine x = Lines.bare(4);
        x.tank(1, 1, 0, 10000, 0);
        x.push(0, 1, 1, 4);
        x.wish(1, 1, 1000, 0);
        for (int i = 0; i < 16; i++) {
            if (i == 8) {
                Check.due("refill by another TANK", x.tankOf(0, 1, 0), 16);
                x.door(2);
                x.tank(2, 1, 0, 10000, 10000);
            }
            Check.holds("10: 60 more", x.push(i < 8 ? 0 : 2, 1, 1, 60) > 0);
            Check.due("18: wanting", x.wished(0, 2), 1000 - 60 * (i + 1));
        }
        x.push(2, 1, 1, 39);
        Check.due("18: 999", x.wished(0, 2), 1);
        Check.due("18: not KEPT", x.wished(0, 0), NONE);
        x.push(2, 1, 1, 1);
        Check.due("18: 1000", x.wished(0, 2), 0);
        Check.due("18: KEPT", x.wished(0, 0), x.count(0));
        x.push(2, 1, 1, 60);
        Check.due("18: no less than 0 wanting", x.wished(0, 2), 0);
    }

    private static void keptByTheFirstPush() {
        OilLine x = Lines.two(6);
        x.wish(1, 0, 2, 0);
        x.push(0, 1, 0, 1);
        x.wait(7);
        Check.due("18: not by waiting", x.wished(0, 0), NONE);
        x.push(0, 1, 0, 11);
        Check.due("18: at its end, not at its begin", x.wished(0, 0), 10);
        x.push(0, 1, 0, 60);
        x.wait(4);
        Check.due("18: that TIME stays", x.wished(0, 0), 10);
        Check.due("18: LATE by that", x.wished(0, 1), 10);
    }

    /** "in all since it was told". */
    private static void sinceItWasTold() {
        OilLine x = Lines.two(6);
        x.push(0, 1, 0, 5);
        x.wish(1, 0, 2, 9);
        x.push(0, 1, 0, 1);
        x.wish(1, 0, 2, 9);
        Check.due("18: 1 of 2", x.wished(0, 2), 1);
        Check.due("18: 0 of 2", x.wished(1, 2), 2);
        x.push(0, 1, 0, 1);
        Check.due("18: KEPT", x.wished(0, 0), 3);
        Check.due("18: the later one is not", x.wished(1, 0), NONE);
        x.push(0, 1, 0, 1);
        Check.due("18: now it is", x.wished(1, 0), 4);
        Check.due("16: in all", x.tankOf(1, 0, 4), 8);
    }

    /** What came OUT "into that TANK": no SLOP, of no other KIND or DOOR; what is taken out again counts still. */
    private static void whatCountsForAWish() {
        OilLine x = Lines.doors(8, 0, 8, 4);
        x.wish(1, 0, 9, 9);
        x.wish(2, 0, 9, 9);
        x.wish(2, 1, 9, 9);
        x.wish(0, 1, 9, 9);
        x.push(0, 2, 1, 5);
        Check.due("18: at another DOOR", x.wished(0, 2), 9);
        Check.due("18: of KIND 0", x.wished(1, 2), 5);
        Check.due("18: of KIND 1", x.wished(2, 2), 8);
        Check.due("18: taken out of a's TANK", x.wished(3, 2), 9);
        x.push(2, 1, 0, 3);
        Check.due("18: taken out again", x.wished(1, 2), 5);
        OilLine y = Lines.bare(6);
        y.follow(1, 0, 1, 1);
        y.push(0, 1, 1, 3);
        y.follow(1, 0, 1, 0);
        y.push(0, 1, 1, 2);
        y.tank(1, 1, 0, 9, 0);
        y.wish(1, 1, 1, 9);
        y.push(0, 1, 1, 1);
        Check.due("18: MIXED and SLOP", y.wished(0, 0), NONE);
        y.grace(1, 100);
        y.push(0, 1, 1, 1);
        Check.due("18: MIXED and FOREIGN", y.wished(0, 0), 4);
    }

    /** "LATE by as many hours as that is beyond its TIME; not KEPT yet: by as many as TIME is". */
    private static void lateByTheHour() {
        OilLine x = Lines.two(6);
        x.wish(1, 0, 1, 5);
        x.wait(4);
        Check.due("18: ahead of its TIME", x.wished(0, 1), 0);
        x.wait(1);
        Check.due("18: at its TIME", x.wished(0, 1), 0);
        x.wait(1);
        Check.due("18: an hour beyond", x.wished(0, 1), 1);
        for (int begin = 3; begin <= 6; begin++) {
            OilLine y = Lines.two(6);
            y.wish(1, 0, 1, 5);
            y.wait(begin);
            y.push(0, 1, 1, 1);
            Check.due("18: KEPT", y.wished(0, 0), begin + 1);
            Check.due("18: LATE", y.wished(0, 1), begin < 5 ? 0 : begin - 4);
            y.wait(50);
            Check.due("18: as LATE as it was", y.wished(0, 1), begin < 5 ? 0 : begin - 4);
        }
    }

    private static void lateByTheGreatestTime() {
        OilLine x = Lines.two(6);
        x.wish(1, 0, 1, 100000);
        x.wish(1, 0, 1, 99999);
        for (int i = 0; i < 100; i++) {
            x.wait(1000);
        }
        Check.due("19: TIME", x.count(0), 100000);
        Check.due("18: by 100000", x.wished(0, 1), 0);
        Check.due("18: by 99999", x.wished(1, 1), 1);
        x.push(0, 1, 1, 1);
        Check.due("18: KEPT at 100001", x.wished(0, 0), 100001);
        Check.due("18: LATE", x.wished(0, 1), 1);
        Check.due("19: of both", x.count(7), 3);
    }

    /** Promise 19: "7 LATE hours of all WISHES", KEPT or not, from none to 20. */
    private static void lateOfAll() {
        OilLine x = Lines.two(6);
        x.wait(1000);
        Check.due("19: of none", x.count(7), 0);
        int due = 0;
        for (int w = 0; w < 20; w++) {
            x.wish(1, 0, 1 + w, 990 + w);
            due += Math.max(0, 10 - w);
            Check.due("19: of " + (w + 1), x.count(7), due);
        }
        x.push(0, 1, 1, 1);
        due = 0;
        for (int w = 0; w < 20; w++) {
            due += Math.max(0, 11 - w);
        }
        Check.due("19: an hour on", x.count(7), due);
        x.wait(2);
        due = 11;
        for (int w = 1; w < 20; w++) {
            due += Math.max(0, 13 - w);
        }
        Check.due("19: the first is KEPT", x.count(7), due);
    }

    /** Promise 12: "STATE: there is none that can be taken back". */
    private static void undoOfNothing() {
        OilLine x = new OilLine();
        Check.due("12: a new object", x.undo(), STATE);
        Check.due("12: again", x.undo(), STATE);
        OilLine y = Lines.two(6);
        Check.due("12: no PUSH", y.undo(), STATE);
        y.trial(0, 1, 1, 1);
        Check.due("12: a trial is none", y.undo(), STATE);
        y.push(0, 1, 1, 61);
        Check.due("12: a refused PUSH is none", y.undo(), STATE);
        y.push(0, 1, 1, 1);
        Check.due("12: one", y.undo(), 1);
        Check.due("12: not twice", y.undo(), STATE);
        Check.due("19: none", y.count(8), 0);
    }

    private static void undoOfAll() {
        OilLine x = Lines.two(30);
        x.follow(1, 0, 1, 2);
        x.follow(2, 1, 1, 1);
        x.grace(1, 100);
        x.grace(0, 100);
        for (int w = 0; w < 20; w++) {
            x.wish(1, w % 3, 1 + 7 * w, w);
        }
        String[] ahead = new String[200];
        for (int b = 1; b <= 199; b++) {
            ahead[b] = Twin.all(x);
            Check.due("19: can be taken back", x.count(8), b - 1);
            Check.due("10: push", x.push(0, 1, b % 3, 1 + b % 4), b);
        }
        Check.due("19: all of them", x.count(8), 199);
        for (int b = 199; b >= 1; b--) {
            Check.due("12: undo", x.undo(), b);
            Check.holds("12: all is as it was ahead of " + b, Twin.all(x).equals(ahead[b]));
        }
        Check.due("12: none more", x.undo(), STATE);
    }

    /** "all is as it was ahead of it (TIME, cost, WISHES too)". */
    private static void undoBringsAllBack() {
        for (int n : new int[] {1, 2, 7, 30}) {
            Twin.unchanged("12: push of " + n, Twin::rich, x -> x.push(0, 1, 1, n) == 4 ? x.undo() : NONE, 4);
        }
        Twin.unchanged("12: push to DOOR 2", Twin::rich, x -> x.push(0, 2, 2, 9) == 4 ? x.undo() : NONE, 4);
        Twin.unchanged("12: two", Twin::rich, x -> {
            x.push(0, 1, 1, 3);
            x.push(0, 2, 2, 2);
            return 10 * x.undo() + x.undo();
        }, 54);
        Supplier<OilLine> oneLeft = () -> {
            OilLine x = Twin.full();
            x.undo();
            return x;
        };
        Twin.unchanged("12: the 200th BATCH", oneLeft, x -> x.push(0, 5, 2, 60) == 199 ? x.undo() : NONE, 199);
    }

    /** "takes back the latest PUSH that was not taken back". */
    private static void undoOfTheLatest() {
        OilLine x = Lines.two(6);
        x.push(0, 1, 1, 1);
        x.push(0, 1, 2, 1);
        Check.due("12: the latest", x.undo(), 2);
        x.push(0, 1, 3, 1);
        x.push(0, 1, 4, 1);
        Check.due("12: the latest now", x.undo(), 3);
        Check.due("12: then the one ahead", x.undo(), 2);
        Lines.looks("12", x, "100000");
        Check.due("12: then the first", x.undo(), 1);
        Check.due("12: none more", x.undo(), STATE);
    }

    /** "Any door() .. line() that is not refused ends that", even one by which nothing becomes another. */
    private static void whatEndsUndo() {
        String[] names = {"door", "tank", "follow", "grace", "rate", "price", "wish", "wait", "line"};
        Twin.Call[] calls = {x -> x.door(3), x -> x.tank(0, 7, 0, 0, 0), x -> x.follow(5, 6, 1, 0),
            x -> x.grace(7, 100), x -> x.rate(0, 4), x -> x.price(0, 1), x -> x.wish(1, 0, 1, 0), x -> x.wait(0),
            x -> x.line(10)};
        for (int i = 0; i < calls.length; i++) {
            OilLine x = Twin.rich();
            Check.due("12: ahead of " + names[i], x.count(8), 3);
            Check.holds("12: not refused: " + names[i], calls[i].on(x) >= 0);
            Check.due("19: none after " + names[i], x.count(8), 0);
            String now = Twin.all(x);
            Check.due("12: none after " + names[i], x.undo(), STATE);
            Check.holds("12: nothing is taken back after " + names[i], Twin.all(x).equals(now));
        }
        for (int i = 0; i < calls.length - 1; i++) {
            OilLine x = Twin.rich();
            calls[i].on(x);
            Check.due("12: a PUSH after " + names[i], x.push(0, 1, 1, 1), 4);
            Check.due("12: can be taken back", x.undo(), 4);
            Check.due("12: none ahead of " + names[i], x.undo(), STATE);
        }
    }

    /** Refused ones do not (RefusalTest shows it for each), nor trial(), nor what only looks. */
    private static void whatDoesNotEndUndo() {
        OilLine x = Twin.rich();
        x.door(0);
        x.tank(0, 1, 0, 1, 1);
        x.follow(1, 1, 0, 0);
        x.grace(0, 101);
        x.rate(0, 61);
        x.price(0, 101);
        x.wish(1, 0, 0, 0);
        x.wait(1001);
        x.line(121);
        x.push(0, 1, 3, 1);
        x.trial(0, 1, 1, 1);
        x.trial(0, 1, 3, 1);
        Twin.all(x);
        Check.due("19: as many", x.count(8), 3);
        Check.due("12: the third", x.undo(), 3);
        Check.due("12: the second", x.undo(), 2);
        Check.due("12: the first", x.undo(), 1);
    }
}
