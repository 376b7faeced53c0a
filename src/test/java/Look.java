/** Objects in the midst of their use, and all that can be seen of one: what a refused call may not change. */
final class Look {
    // Air UP: 22 come into hall 0, 17 go to hall 1 and 5 to hall 2 (16 and 5, one left), all leave by hall 1.
    // Air DOWN: 7 come into hall 1, go to hall 0 (the flap lets nothing) and out; hall 2 gets none.
    static final String CAVE =
        "h10,5,0;h60,0,0;h30,0,0;o0,22,0;d0,1,3,0;d0,2,1,2;d2,1,4,1;o1,7,0;s1;v4;";
    // As many HALLS and DOORS as there can be, of all kinds.
    static final String GREAT =
        "h1,9,1;h11,0,0;h22,3,0;h33,0,0;h44,0,0;h55,0,0;h66,0,0;h77,50,0;o0,50,0;o1,9,2;"
        + "d0,2,7,0;d1,3,8,1;d2,4,9,2;d3,5,7,0;d4,6,5,0;d5,7,4,0;d6,7,3,3;o7,50,0;s6;v30;";

    private Look() {
    }

    /** HOUR 14, one KEPT of HOUR 5 and unlike, a DOOR shut, a HALL FLOODED, one SMELLED. */
    static CaveBreath inUse() {
        CaveBreath x = Due.laid(CAVE);
        x.hours(5);
        x.keep();
        x.set(1, false);
        x.flood(2, true);
        x.hours(9);
        x.flood(0, true);
        x.flood(2, false);
        x.smelled(3, 1, true);
        return x;
    }

    /** As many HALLS, DOORS, SMELLED, KEPT and bytes of THE TEXT as there can be. */
    static CaveBreath full() {
        CaveBreath x = Due.laid(fullText());
        for (int k = 0; k < 10; k++) {
            x.smelled(k, k % 8, k % 3 == 0);
        }
        x.hours(7);
        x.keep();
        x.set(9, false);
        x.flood(7, true);
        x.hours(30);
        x.keep();
        x.set(0, false);
        x.hours(3);
        return x;
    }

    /** GREAT told at 400 bytes: what comes behind it tells what is so already. */
    static String fullText() {
        StringBuilder s = new StringBuilder(GREAT);
        while ((400 - s.length()) % 4 != 0) {
            s.append("s6;");
        }
        while (s.length() < 400) {
            s.append("m50;");
        }
        return s.toString();
    }

    private static void row(StringBuilder s, String call, int answer) {
        s.append(call).append(' ').append(answer).append('\n');
    }

    /** What changes as an object is used, and little of it: some 35 calls at most. */
    private static void brief(StringBuilder s, CaveBreath x) {
        for (int what = 0; what < 8; what++) {
            row(s, "count " + what, x.count(what));
        }
        int halls = x.count(0);
        int doors = x.count(1);
        for (int i = 0; i < halls; i++) {
            row(s, "SMOKE of " + i, x.hall(i, 3));
            row(s, "FLOODED " + i, x.hall(i, 4));
        }
        for (int d = 0; d < doors; d++) {
            row(s, "open " + d, x.door(d, 4));
        }
    }

    private static void plan(StringBuilder s, CaveBreath x) {
        int halls = x.count(0);
        int doors = x.count(1);
        for (int i = 0; i < halls; i++) {
            for (int what = 0; what < 3; what++) {
                row(s, "hall " + i + " " + what, x.hall(i, what));
            }
        }
        for (int d = 0; d < doors; d++) {
            for (int what = 0; what < 4; what++) {
                row(s, "door " + d + " " + what, x.door(d, what));
            }
        }
    }

    private static void air(StringBuilder s, CaveBreath x, int t) {
        row(s, "goes " + t, x.goes(t));
        int halls = x.count(0);
        int doors = x.count(1);
        for (int i = 0; i < halls; i++) {
            row(s, "air " + t + " " + i, x.air(t, i));
            row(s, "downwind " + t + " " + i, x.downwind(t, i));
        }
        for (int d = 0; d < doors; d++) {
            row(s, "through " + t + " " + d, x.through(t, d));
        }
        row(s, "first " + t, x.first(0, t, 0));
    }

    private static void wardens(StringBuilder s, CaveBreath x) {
        row(s, "fault", x.fault());
        row(s, "burns", x.burns());
        row(s, "shaft", x.shaft(1));
        row(s, "lamps", x.lamps(0));
        row(s, "nearest", x.settings(1));
        row(s, "weather", x.weather(7, 30));
    }

    /** What can be seen of an object now, by calls that change nothing. */
    static String of(CaveBreath x) {
        StringBuilder s = new StringBuilder();
        brief(s, x);
        air(s, x, 0);
        air(s, x, 12);
        wardens(s, x);
        return s.toString();
    }

    /** The same, then what was KEPT and what THE TEXT tells; the object is used up by it. */
    static String throughAll(CaveBreath x) {
        StringBuilder s = new StringBuilder(of(x));
        plan(s, x);
        for (int left = x.count(5); left > 0; left--) {
            row(s, "back", x.back());
            brief(s, x);
        }
        row(s, "lay", x.lay());
        plan(s, x);
        return s.toString();
    }
}
