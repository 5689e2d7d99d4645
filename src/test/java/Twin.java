import java.util.function.Supplier;

/** Of two objects that were told the same, one gets a call that must change nothing; then both are asked for all. */
final class Twin {
    interface Call {
        int on(OilLine x);
    }

    private static final int DOORS = 6, KINDS = 8, WISHES = 20;

    private Twin() {
    }

    static void unchanged(String call, Supplier<OilLine> maker, Call made, int due) {
        OilLine told = maker.get();
        OilLine other = maker.get();
        Check.due(call, made.on(told), due);
        Check.holds(call + " changes nothing that is where", all(told).equals(all(other)));
        Check.holds(call + " changes nothing that can be taken back", takenBack(told).equals(takenBack(other)));
        Check.holds(call + " changes no table", tables(told).equals(tables(other)));
    }

    /** All that promises 14 to 20 tell. */
    static String all(OilLine x) {
        StringBuilder text = new StringBuilder();
        for (int what = 0; what <= 8; what++) {
            text.append(x.count(what)).append(' ');
        }
        text.append(x.borders()).append('\n');
        for (int m = 0; m < x.count(5); m++) {
            for (int what = 0; what <= 3; what++) {
                text.append(x.at(m, what)).append(' ');
            }
        }
        for (int b = 0; b < x.count(2); b++) {
            for (int what = 0; what <= 5; what++) {
                text.append(x.batch(b, what)).append(' ');
            }
        }
        doors(x, text);
        for (int w = 0; w < WISHES; w++) {
            for (int what = 0; what <= 2; what++) {
                text.append(x.wished(w, what)).append(' ');
            }
        }
        return text.toString();
    }

    private static void doors(OilLine x, StringBuilder text) {
        for (int d = 0; d < DOORS; d++) {
            for (int what = 0; what <= 2; what++) {
                text.append(x.about(d, what)).append(' ');
            }
            for (int k = 0; k < KINDS; k++) {
                for (int what = 0; what <= 4; what++) {
                    text.append(x.tankOf(d, k, what)).append(' ');
                }
            }
        }
    }

    /** What is where after each UNDO, until there is none more. */
    static String takenBack(OilLine x) {
        StringBuilder text = new StringBuilder();
        for (int i = 0; i <= 200; i++) {
            int gone = x.undo();
            text.append(gone).append('\n');
            if (gone < 0) {
                break;
            }
            text.append(all(x));
        }
        return text.toString();
    }

    /** GRACE, PRICE, and how each pair of KINDS goes together; the object is of no use after that. */
    static String tables(OilLine x) {
        StringBuilder text = new StringBuilder();
        for (int k = 0; k < KINDS; k++) {
            text.append(x.grace(k, 0)).append(' ');
        }
        for (int h = 0; h < 24; h++) {
            text.append(x.price(h, 1)).append(' ');
        }
        for (int fore = 0; fore < KINDS; fore++) {
            if (fore != 0) {
                x.follow(fore, 0, 1, 0);
            }
            for (int hind = 0; hind < KINDS; hind++) {
                pair(x, hind, fore, text);
            }
        }
        return text.toString();
    }

    private static void pair(OilLine x, int hind, int fore, StringBuilder text) {
        x.line(8);
        x.door(0);
        x.door(8);
        x.tank(0, fore, 0, 100, 100);
        x.tank(0, hind, 0, 100, 100);
        if (fore != 0) {
            Check.due("twin: fill the line with " + fore, x.push(0, 1, fore, 8), 1);
        }
        int answer = x.push(0, 1, hind, 6);
        text.append(hind).append(fore).append(':').append(answer).append(Lines.picture(x));
        for (int m = 0; m < 8; m++) {
            text.append(x.at(m, 3));
        }
        text.append('\n');
    }

    /**
     * DOORS 0, 1, 2 at places 0, 10, 5; MIXED, FOREIGN and SLOP ones; a WISH that is KEPT and one that is not;
     * tables that are not as at first; three PUSHES that can be taken back.
     */
    static OilLine rich() {
        OilLine x = new OilLine();
        x.line(10);
        x.door(0);
        x.door(10);
        x.door(5);
        x.tank(0, 1, 0, 100, 60);
        x.tank(0, 2, 0, 100, 60);
        x.tank(0, 3, 50, 100, 52);
        x.tank(1, 0, 0, 40, 10);
        x.tank(1, 1, 0, 50, 5);
        x.tank(2, 1, 2, 6, 3);
        x.follow(1, 0, 1, 1);
        x.follow(2, 1, 1, 3);
        x.follow(3, 2, 0, 4);
        x.grace(1, 20);
        x.grace(7, 100);
        x.price(6, 9);
        x.price(23, 0);
        x.rate(0, 4);
        x.rate(2, 60);
        x.wish(1, 0, 3, 1);
        x.wish(1, 1, 20, 32);
        x.wait(29);
        x.push(0, 1, 1, 5);
        x.push(0, 2, 2, 3);
        x.push(0, 1, 2, 7);
        return x;
    }

    /** As much as there may be of DOORS, WISHES and BATCHES; all PUSHES can be taken back. */
    static OilLine full() {
        OilLine x = new OilLine();
        x.line(6);
        for (int d = 0; d < DOORS; d++) {
            x.door(d == 0 ? 0 : d + 1);
        }
        x.tank(0, 1, 0, 1000, 1000);
        x.tank(0, 2, 0, 1000, 1000);
        x.tank(5, 1, 0, 1000, 0);
        for (int w = 0; w < WISHES; w++) {
            x.wish(5, 1, 1 + 10 * w, w);
        }
        for (int b = 1; b < 200; b++) {
            x.push(0, 5, 1 + b % 2, 1);
        }
        return x;
    }
}
