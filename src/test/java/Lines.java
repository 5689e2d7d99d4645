/** Lines that several tests begin with, and a picture of a line. */
final class Lines {
    private Lines() {
    }

    /** DOOR 0 at the begin and DOOR 1 at the end, each with a TANK of 500 out of 0 .. 1000 for every KIND. */
    static OilLine two(int measures) {
        OilLine x = bare(measures);
        for (int kind = 0; kind < 8; kind++) {
            x.tank(1, kind, 0, 1000, 500);
        }
        return x;
    }

    /** The same, but DOOR 1 has no TANK. */
    static OilLine bare(int measures) {
        OilLine x = new OilLine();
        x.line(measures);
        x.door(0);
        x.door(measures);
        for (int kind = 0; kind < 8; kind++) {
            x.tank(0, kind, 0, 1000, 500);
        }
        return x;
    }

    /** DOORS at these places, each with a TANK of 500 out of 0 .. 1000 for every KIND. */
    static OilLine doors(int measures, int... places) {
        OilLine x = new OilLine();
        x.line(measures);
        for (int door = 0; door < places.length; door++) {
            x.door(places[door]);
            for (int kind = 0; kind < 8; kind++) {
                x.tank(door, kind, 0, 1000, 500);
            }
        }
        return x;
    }

    /** Of each MEASURE its KIND; of a MIXED one HIND and FORE KIND in brackets: 11(10)0. */
    static String picture(OilLine x) {
        StringBuilder text = new StringBuilder();
        for (int m = 0; m < x.count(5); m++) {
            if (x.at(m, 2) == OilLine.NONE) {
                text.append(x.at(m, 1));
            } else {
                text.append('(').append(x.at(m, 1)).append(x.at(m, 2)).append(')');
            }
        }
        return text.toString();
    }

    static void looks(String when, OilLine x, String due) {
        String is = picture(x);
        Check.holds(when + ": the line is " + is + ", due is " + due, is.equals(due));
    }
}
