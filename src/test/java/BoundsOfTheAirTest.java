/** Promises 6 to 14: each sentence on HALLS, DOORS, air and HOURS that names a boundary case, by itself. */
public final class BoundsOfTheAirTest {
    private static final int BAD = -1, NONE = -4;
    private static final int LEAST = Integer.MIN_VALUE, MOST = Integer.MAX_VALUE;
    // None of them is a HALL or a DOOR, whatever is LAID; a shift by 32 or 256 is one by 0.
    private static final int[] NEVER = {-1, -32, 10, 16, 31, 32, 33, 256, LEAST, MOST};
    private static final int[] NO_HOURS = {-1, -24, 1000000, 1000012, LEAST, MOST};
    private static final Due DUE = new Due("BoundsOfTheAirTest");

    // Air of 1 goes UP from the OPEN into hall 0, to hall 1, out; as all DOORS are FLAPS, none goes DOWN.
    private static final String FLAPS = "h60,0,0;o0,1,1;d0,1,1,1;o1,1,1;";

    public static void main(String[] args) {
        DUE.runPromises(BoundsOfTheAirTest.class, 6, 14);
        DUE.end();
    }

    private static void due(String call, long got, long want) {
        DUE.is(call, got, want);
    }

    /** Hall 0, low, in by a DOOR of width in; hall 1, high, out; between them DOORS of these widths. */
    private static CaveBreath between(int in, int... widths) {
        StringBuilder s = new StringBuilder("h10,0,0;h60,0,0;o0," + in + ",0;");
        for (int w : widths) {
            s.append("d0,1,").append(w).append(",0;");
        }
        return Due.laid(s.append("o1,1,0;").toString());
    }

    private static void throughDoorsFrom1(String when, CaveBreath x, int... want) {
        for (int k = 0; k < want.length; k++) {
            due(when + ", through(0, " + (k + 1) + ")", x.through(0, k + 1), want[k]);
        }
    }

    // ---- promise 6: hall

    static void promise06SuchAsThereAre() {
        DUE.says(6, "BAD: a number is none that is told (HALLS, DOORS: such as there are)");
        for (int wrong : NEVER) {
            DUE.refused("hall(" + wrong + ", 0)", x -> x.hall(wrong, 0), BAD);
        }
        DUE.refused("hall(3, 0) of three", x -> x.hall(3, 0), BAD);
        DUE.refusedByFull("hall(8, 0) of eight", x -> x.hall(8, 0), BAD);
        due("hall(2, 0) of three", Look.inUse().hall(2, 0), 30);
        due("hall(7, 0) of eight", Look.full().hall(7, 0), 77);
        due("hall(0, 0) of one", new CaveBreath().hall(0, 0), 10);
        due("hall(1, 0) of one", new CaveBreath().hall(1, 0), BAD);
    }

    static void promise06What() {
        DUE.says(6, "Z (what = 0), S (1), N (2), SMOKE (3), 1 if it is FLOODED (4). BAD.");
        for (int wrong : new int[] {-1, 5, 6, 256, LEAST, MOST}) {
            DUE.refused("hall(0, " + wrong + ")", x -> x.hall(0, wrong), BAD);
            DUE.refused("hall(3, " + wrong + ")", x -> x.hall(3, wrong), BAD);
        }
        CaveBreath x = Due.laid("h99,50,98;h0,0,0;");
        x.hours(1);
        x.flood(0, true);
        int[][] tells = {{99, 50, 98, 50, 1}, {0, 0, 0, 0, 0}};
        for (int i = 0; i < 2; i++) {
            for (int what = 0; what < 5; what++) {
                due("hall(" + i + ", " + what + ")", x.hall(i, what), tells[i][what]);
            }
        }
    }

    // ---- promise 7: door

    static void promise07SuchAsThereAre() {
        DUE.says(7, "BAD: a number is none that is told (HALLS, DOORS: such as there are)");
        for (int wrong : NEVER) {
            DUE.refused("door(" + wrong + ", 0)", x -> x.door(wrong, 0), BAD);
        }
        DUE.refused("door(5, 0) of five", x -> x.door(5, 0), BAD);
        DUE.refusedByFull("door(10, 0) of ten", x -> x.door(10, 0), BAD);
        due("door(4, 2) of five", Look.inUse().door(4, 2), 7);
        due("door(9, 2) of ten", Look.full().door(9, 2), 50);
        due("door(0, 0) of none", new CaveBreath().door(0, 0), BAD);
    }

    static void promise07What() {
        DUE.says(7, "one HALL (what = 0), the other one (1 ..), W (2), KIND (3), 1 if it is open (4). BAD.");
        for (int wrong : new int[] {-1, 5, 6, 256, LEAST, MOST}) {
            DUE.refused("door(0, " + wrong + ")", x -> x.door(0, wrong), BAD);
            DUE.refused("door(5, " + wrong + ")", x -> x.door(5, wrong), BAD);
        }
        CaveBreath x = Due.laid("h1,0,0;h2,0,0;d1,0,50,3;d0,1,1,0;");
        x.set(1, false);
        int[][] tells = {{1, 0, 50, 3, 1}, {0, 1, 1, 0, 0}};
        for (int d = 0; d < 2; d++) {
            for (int what = 0; what < 5; what++) {
                due("door(" + d + ", " + what + ")", x.door(d, what), tells[d][what]);
            }
        }
    }

    static void promise07TheOpen() {
        DUE.says(7, "the other one (1; NONE: the OPEN)");
        CaveBreath x = Look.full();
        due("door(0, 0)", x.door(0, 0), 0);
        due("door(0, 1)", x.door(0, 1), NONE);
        due("door(9, 0)", x.door(9, 0), 7);
        due("door(9, 1)", x.door(9, 1), NONE);
        due("door(8, 1), into hall 7", x.door(8, 1), 7);
        due("door(1, 1) of h..;o0,..", Due.laid("h1,0,0;o0,1,0;o0,2,3;").door(1, 1), NONE);
    }

    // ---- promise 8: set

    static void promise08AsItWas() {
        DUE.says(8, "A DOOR is set open, shut: 1, 0 as it was");
        CaveBreath x = Look.full();
        x.lay();
        for (int d = 0; d < 10; d++) {
            due("set(" + d + ", true), open already", x.set(d, true), 1);
            due("set(" + d + ", false)", x.set(d, false), 1);
            due("set(" + d + ", false) again", x.set(d, false), 0);
            due("door(" + d + ", 4)", x.door(d, 4), 0);
            for (int e = d + 1; e < 10; e++) {
                due("door(" + e + ", 4), another one", x.door(e, 4), 1);
            }
        }
        for (int d = 9; d >= 0; d--) {
            due("set(" + d + ", true)", x.set(d, true), 0);
            due("door(" + d + ", 4)", x.door(d, 4), 1);
        }
    }

    static void promise08Bad() {
        DUE.says(8, "BAD.");
        for (int wrong : NEVER) {
            for (boolean open : new boolean[] {false, true}) {
                DUE.refused("set(" + wrong + ", " + open + ")", x -> x.set(wrong, open), BAD);
                DUE.refusedByFull("set(" + wrong + ", " + open + ") of ten", x -> x.set(wrong, open), BAD);
            }
        }
        DUE.refused("set(5, false) of five", x -> x.set(5, false), BAD);
        due("set(0, true) of none", new CaveBreath().set(0, true), BAD);
    }

    // ---- promise 9: flood

    static void promise09AsItWas() {
        DUE.says(9, "A HALL is FLOODED, DRY: 1, 0 as it was");
        CaveBreath x = Look.full();
        x.lay();
        for (int i = 0; i < 8; i++) {
            due("flood(" + i + ", false), DRY already", x.flood(i, false), 0);
            due("flood(" + i + ", true)", x.flood(i, true), 0);
            due("flood(" + i + ", true) again", x.flood(i, true), 1);
            due("hall(" + i + ", 4)", x.hall(i, 4), 1);
            for (int j = i + 1; j < 8; j++) {
                due("hall(" + j + ", 4), another one", x.hall(j, 4), 0);
            }
        }
        for (int i = 7; i >= 0; i--) {
            due("flood(" + i + ", false)", x.flood(i, false), 1);
            due("hall(" + i + ", 4)", x.hall(i, 4), 0);
        }
    }

    static void promise09Bad() {
        DUE.says(9, "BAD.");
        for (int wrong : NEVER) {
            for (boolean is : new boolean[] {false, true}) {
                DUE.refused("flood(" + wrong + ", " + is + ")", x -> x.flood(wrong, is), BAD);
                DUE.refusedByFull("flood(" + wrong + ", " + is + ") of eight", x -> x.flood(wrong, is), BAD);
            }
        }
        DUE.refused("flood(3, true) of three", x -> x.flood(3, true), BAD);
        DUE.refusedByFull("flood(8, true) of eight", x -> x.flood(8, true), BAD);
        due("flood(0, true) of one", new CaveBreath().flood(0, true), 0);
    }

    // ---- promise 10: goes

    static void promise10HourRange() {
        DUE.says(10, "In HOUR t (0 to 999999) .. BAD.");
        for (int wrong : NO_HOURS) {
            DUE.refused("goes(" + wrong + ")", x -> x.goes(wrong), BAD);
        }
        due("goes(0)", new CaveBreath().goes(0), 1);
        due("goes(999999)", new CaveBreath().goes(999999), 2);
    }

    static void promise10HalfDays() {
        DUE.says(10, "outside it is A warm in HOURS 0 to 11 of a DAY, B in 12 to 23");
        CaveBreath x = new CaveBreath();
        for (int t = 0; t < 24; t++) {
            due("goes(" + t + ")", x.goes(t), t <= 11 ? 1 : 2);
        }
    }

    static void promise10Modulo() {
        DUE.says(10, "HOUR t (0 first) is t modulo 24 of its DAY");
        CaveBreath x = new CaveBreath();
        int[][] ways = {{23, 2}, {24, 1}, {35, 1}, {36, 2}, {47, 2}, {48, 1}, {999983, 2}, {999984, 1}, {999995, 1},
            {999996, 2}, {65535, 2}, {65544, 1}, {256, 2}, {263, 2}, {264, 1}};
        for (int[] way : ways) {
            due("goes(" + way[0] + ")", x.goes(way[0]), way[1]);
        }
        x.hours(13);
        due("goes(0), whatever the HOUR is", x.goes(0), 1);
    }

    static void promise10AsWarm() {
        DUE.says(10, "Air goes UP in an HOUR in which it is colder outside than in the HALLS, DOWN .. warmer, else not");
        for (int warm : new int[] {0, 1, 50, 98, 99}) {
            for (int outside = Math.max(0, warm - 1); outside <= Math.min(99, warm + 1); outside++) {
                CaveBreath x = Due.laid("h1,0,0;c" + warm + ";w" + outside + "," + warm + ";");
                due(outside + " by " + warm, x.goes(0), outside < warm ? 1 : outside > warm ? 2 : 0);
                due(warm + " by " + warm, x.goes(12), 0);
            }
        }
    }

    // ---- promise 11: air

    static void promise11Bad() {
        DUE.says(11, "AIR of a HALL in HOUR t. BAD.");
        for (int wrong : NEVER) {
            DUE.refused("air(0, " + wrong + ")", x -> x.air(0, wrong), BAD);
        }
        for (int wrong : NO_HOURS) {
            DUE.refused("air(" + wrong + ", 0)", x -> x.air(wrong, 0), BAD);
            DUE.refused("air(" + wrong + ", 3)", x -> x.air(wrong, 3), BAD);
        }
        DUE.refused("air(0, 3) of three", x -> x.air(0, 3), BAD);
        DUE.refusedByFull("air(0, 8) of eight", x -> x.air(0, 8), BAD);
        due("air(999999, 1)", Due.laid(Look.CAVE).air(999999, 1), 7);
        due("air(999995, 1)", Due.laid(Look.CAVE).air(999995, 1), 22);
    }

    static void promise11NoDoors() {
        DUE.says(11, "other HALLS have AIR 0");
        CaveBreath x = new CaveBreath();
        due("air(0, 0) without DOORS", x.air(0, 0) + x.air(12, 0), 0);
        // Both lead in when UP, both out when DOWN: air comes in and has no way out, or the other way round.
        CaveBreath y = Due.laid("h10,0,0;o0,9,0;o0,9,0;");
        due("air(0, 0), no way out", y.air(0, 0), 0);
        due("through(0, 0), no way out", y.through(0, 0), 0);
        due("air(12, 0), a way out alone", y.air(12, 0), 0);
        due("through(12, 0), a way out alone", y.through(12, 0), 0);
    }

    static void promise11NotGoing() {
        DUE.says(11, "nothing, if .. air does not go");
        CaveBreath x = Due.laid(Look.CAVE + "w12,11;");
        for (int i = 0; i < 3; i++) {
            due("air(0, " + i + ")", x.air(0, i), 0);
            due("air(11, " + i + ")", x.air(11, i), 0);
        }
        due("air(12, 1)", x.air(12, 1), 22);
    }

    static void promise11Flooded() {
        DUE.says(11, "nothing, if a HALL of it is FLOODED");
        for (int i = 0; i < 2; i++) {
            CaveBreath x = between(9, 1);
            x.flood(i, true);
            for (int t = 0; t <= 12; t += 12) {
                due("AIR by hall " + i, x.air(t, 0) + x.air(t, 1), 0);
                due("through by hall " + i, x.through(t, 0) + x.through(t, 1) + x.through(t, 2), 0);
            }
        }
        CaveBreath y = Due.laid("h10,0,0;h60,0,0;h30,0,0;o0,9,0;d0,1,1,2;d1,0,1,0;d2,1,1,0;o1,1,0;");
        y.set(1, false);
        y.flood(2, true);
        due("AIR by a HALL beside", y.air(0, 1), 9);
    }

    static void promise11Middle() {
        DUE.says(11, "a HALL below MIDDLE leads in, if air goes UP, out, if DOWN; of another HALL the other way");
        for (int middle : new int[] {1, 50, 99}) {
            String text = "h" + (middle - 1) + ",0,0;h" + middle + ",0,0;o0,6,0;o1,8,0;d0,1,1,0;m";
            CaveBreath x = Due.laid(text + middle + ";");
            due("UP, in by the one below", x.air(0, 0), 6);
            due("UP, out by the one at MIDDLE", x.through(0, 1), 6);
            due("DOWN, in by the one at MIDDLE", x.air(12, 1), 8);
            due("DOWN, out by the one below", x.through(12, 0), 8);
            CaveBreath both = Due.laid(text + (middle - 1) + ";");
            due("none of them below: UP", both.air(0, 0) + both.air(0, 1), 0);
            due("none of them below: DOWN", both.air(12, 0) + both.air(12, 1), 0);
        }
    }

    static void promise11Higher() {
        DUE.says(11, "leads from the lower to the higher one, if air goes UP, else from the higher to the lower one");
        int[][] heights = {{0, 99, 50}, {49, 50, 50}, {0, 1, 1}, {98, 99, 99}};
        for (int[] z : heights) {
            for (String door : new String[] {"d0,1,1,0;", "d1,0,1,0;"}) {
                CaveBreath x = Due.laid("h" + z[0] + ",0,0;h" + z[1] + ",0,0;o0,6,0;o1,8,0;" + door + "m" + z[2] + ";");
                due("UP " + z[0] + " to " + z[1] + " by " + door, x.downwind(0, 0) * 10 + x.downwind(0, 1), 20);
                due("DOWN " + z[1] + " to " + z[0] + " by " + door, x.downwind(12, 0) * 10 + x.downwind(12, 1), 1);
                CaveBreath y = Due.laid("h" + z[1] + ",0,0;h" + z[0] + ",0,0;o1,6,0;o0,8,0;" + door + "m" + z[2] + ";");
                due("UP, the higher one told first, by " + door, y.air(0, 0) * 10 + y.air(0, 1), 66);
                due("DOWN, the higher one told first, by " + door, y.air(12, 0) * 10 + y.air(12, 1), 88);
            }
        }
    }

    static void promise11Plain() {
        DUE.says(11, "PLAIN W, if it is open .. and all others, 0");
        for (int w : new int[] {1, 50}) {
            CaveBreath x = Due.laid("h10,0,0;h60,0,0;o0," + w + ",0;d0,1,1,0;o1," + w + ",0;");
            due("open, UP", x.air(0, 1), w);
            due("open, DOWN", x.air(12, 1), w);
            x.set(0, false);
            due("shut, UP", x.air(0, 0), 0);
            x.set(0, true);
            x.set(2, false);
            due("shut, DOWN", x.air(12, 0), 0);
        }
    }

    static void promise11Flap() {
        DUE.says(11, "FLAP W, if it is open and air goes UP .. and all others, 0");
        for (int w : new int[] {1, 50}) {
            CaveBreath x = Due.laid("h10,0,0;h60,0,0;o0," + w + ",1;d0,1,1,0;o1," + w + ",1;o1,1,0;o0,1,0;");
            due("open, UP", x.through(0, 0), w);
            due("open, DOWN", x.through(12, 2), 0);
            due("DOWN, beside a PLAIN one", x.air(12, 1), 1);
            x.set(0, false);
            due("shut, UP", x.through(0, 0), 0);
            x.set(2, false);
            due("shut, DOWN", x.through(12, 2), 0);
        }
    }

    static void promise11Leaky() {
        DUE.says(11, "LEAKY W, if it is open, else W by 4, cut");
        int[][] shut = {{1, 0}, {3, 0}, {4, 1}, {7, 1}, {8, 2}, {49, 12}, {50, 12}};
        for (int[] w : shut) {
            CaveBreath x = Due.laid("h10,0,0;h60,0,0;o0," + w[0] + ",2;d0,1,1,0;o1," + w[0] + ",2;o0,1,0;o1,1,0;");
            due("open, UP, W " + w[0], x.through(0, 0), w[0]);
            due("open, DOWN, W " + w[0], x.through(12, 2), w[0]);
            x.set(0, false);
            x.set(2, false);
            due("shut, UP, W " + w[0], x.through(0, 0), w[1]);
            due("shut, DOWN, W " + w[0], x.through(12, 2), w[1]);
        }
    }

    static void promise11Bricked() {
        DUE.says(11, "BRICKED, and all others, 0");
        CaveBreath x = Due.laid("h10,0,0;h60,0,0;o0,50,3;d0,1,1,0;o1,50,3;o0,1,0;o1,1,0;");
        for (boolean open : new boolean[] {true, false}) {
            x.set(0, open);
            x.set(2, open);
            due("UP", x.through(0, 0) * 100 + x.air(0, 1), 1);
            due("DOWN", x.through(12, 2) * 100 + x.air(12, 0), 1);
        }
    }

    static void promise11Breathes() {
        DUE.says(11, "over DOORS that let some, as they lead, comes into the OPEN");
        // The one way out is LEAKY and shut: by 3 it lets none, by 4 it lets 1.
        for (int w : new int[] {3, 4}) {
            CaveBreath x = Due.laid("h10,0,0;h20,0,0;h60,0,0;o0,9,0;d0,1,1,0;d1,2,1,0;o2," + w + ",2;");
            x.set(3, false);
            for (int i = 0; i < 3; i++) {
                due("air(0, " + i + ") by a way out of " + w, x.air(0, i), w == 4 ? 9 : 0);
            }
        }
        // Hall 2 is above hall 1, but its DOOR into the OPEN leads in, too.
        CaveBreath y = Due.laid("h10,0,0;h20,0,0;h49,0,0;o0,9,0;d0,1,1,0;d1,2,1,0;o2,9,0;");
        due("air(0, ..) if all lead in", y.air(0, 0) + y.air(0, 1) + y.air(0, 2), 0);
    }

    static void promise11Most() {
        DUE.says(11, "AIR of a HALL that BREATHES is all that comes into it");
        CaveBreath x = Due.laid("h0,0,0;h99,0,0;" + "o0,50,0;".repeat(8) + "d0,1,1,0;o1,1,0;");
        due("air(0, 0) by eight DOORS of 50", x.air(0, 0), 400);
        due("air(0, 1)", x.air(0, 1), 400);
        due("through(0, 9), all of it", x.through(0, 9), 400);
        due("air(12, 0) by one of 1", x.air(12, 0), 1);
        // From the OPEN and from another HALL.
        CaveBreath y = Due.laid("h0,0,0;h9,0,0;h99,0,0;o0,50,0;o1,7,0;d0,1,1,0;d1,2,1,0;o2,1,0;");
        due("air(0, 1) from the OPEN and hall 0", y.air(0, 1), 57);
    }

    // ---- promise 12: through

    static void promise12Bad() {
        DUE.says(12, "What goes through a DOOR in HOUR t. BAD.");
        for (int wrong : NEVER) {
            DUE.refused("through(0, " + wrong + ")", x -> x.through(0, wrong), BAD);
        }
        for (int wrong : NO_HOURS) {
            DUE.refused("through(" + wrong + ", 0)", x -> x.through(wrong, 0), BAD);
            DUE.refused("through(" + wrong + ", 5)", x -> x.through(wrong, 5), BAD);
        }
        DUE.refused("through(0, 5) of five", x -> x.through(0, 5), BAD);
        DUE.refusedByFull("through(0, 10) of ten", x -> x.through(0, 10), BAD);
        due("through(0, 0) of none", new CaveBreath().through(0, 0), BAD);
        due("through(999999, 4)", Due.laid(Look.CAVE).through(999999, 4), 7);
        due("through(999995, 4)", Due.laid(Look.CAVE).through(999995, 4), 22);
    }

    static void promise12Cut() {
        DUE.says(12, "AIR times what it lets, by what all these let together, cut");
        throughDoorsFrom1("6 by 1, 1, 1", between(6, 1, 1, 1), 2, 2, 2);
        throughDoorsFrom1("50 by 50, 50", between(50, 50, 50), 25, 25);
        throughDoorsFrom1("49 by 1, 48", between(49, 1, 48), 1, 48);
        throughDoorsFrom1("1 by 50, alone", between(1, 50), 1);
        throughDoorsFrom1("50 by 1, alone", between(50, 1), 50);
    }

    static void promise12Left() {
        DUE.says(12, "what is left goes one each through the lowest of these DOORS");
        throughDoorsFrom1("4 by 1, 1, 1", between(4, 1, 1, 1), 2, 1, 1);
        throughDoorsFrom1("5 by 1, 1, 1", between(5, 1, 1, 1), 2, 2, 1);
        throughDoorsFrom1("1 by 1, 1, 1", between(1, 1, 1, 1), 1, 0, 0);
        throughDoorsFrom1("6 by seven of 1", between(6, 1, 1, 1, 1, 1, 1, 1), 1, 1, 1, 1, 1, 1, 0);
        throughDoorsFrom1("7 by seven of 1", between(7, 1, 1, 1, 1, 1, 1, 1), 1, 1, 1, 1, 1, 1, 1);
        // 0.02 and 0.98: cut both are none; the lowest, not the widest.
        throughDoorsFrom1("1 by 1, 50", between(1, 1, 50), 1, 0);
        throughDoorsFrom1("7 by 2, 3", between(7, 2, 3), 3, 4);
    }

    static void promise12LeftOfTheseAlone() {
        DUE.says(12, "those of its DOORS that let some and lead into the OPEN or to a HALL that BREATHES");
        // DOORS 1 (shut), 2 (BRICKED) and 3 (to a dead end) are lower, but none of these.
        CaveBreath x = Due.laid(
            "h10,0,0;h60,0,0;h30,0,0;o0,3,0;d0,1,9,0;d0,1,9,3;d0,2,9,0;d0,1,1,0;d0,1,1,0;o1,1,0;");
        x.set(1, false);
        throughDoorsFrom1("3 by 1, 1", x, 0, 0, 0, 2, 1);
        // Hall 0, high, leads into the OPEN and to hall 1: 5 by 1, 1.
        CaveBreath y = Due.laid("h60,0,0;h70,0,0;h10,0,0;o2,5,0;d2,0,1,0;o0,1,0;d0,1,1,0;o1,1,0;");
        due("into the OPEN, the lower DOOR", y.through(0, 2), 3);
        due("to a HALL that BREATHES", y.through(0, 3), 2);
        y.set(4, false);
        due("to a HALL that does not", y.through(0, 3), 0);
        due("all into the OPEN then", y.through(0, 2), 5);
    }

    static void promise12OtherDoors() {
        DUE.says(12, "Through all other DOORS nothing goes");
        CaveBreath x = Due.laid("h10,0,0;h60,0,0;h30,0,0;o0,9,0;o2,8,0;d0,1,1,0;d0,2,1,0;o1,1,0;");
        due("from the OPEN into a dead end", x.through(0, 1), 0);
        due("into a dead end", x.through(0, 3), 0);
        due("AIR of it", x.air(0, 2), 0);
        // DOWN, hall 2 has a way out, and no air.
        due("out of a HALL without AIR", x.through(12, 1), 0);
        x.set(4, false);
        for (int d = 0; d < 5; d++) {
            due("through(0, " + d + ") without a way out", x.through(0, d), 0);
        }
    }

    // ---- promise 13: downwind

    static void promise13Bad() {
        DUE.says(13, "DOWNWIND of a HALL in HOUR t, as bits. BAD.");
        for (int wrong : NEVER) {
            DUE.refused("downwind(0, " + wrong + ")", x -> x.downwind(0, wrong), BAD);
        }
        for (int wrong : NO_HOURS) {
            DUE.refused("downwind(" + wrong + ", 0)", x -> x.downwind(wrong, 0), BAD);
            DUE.refused("downwind(" + wrong + ", 3)", x -> x.downwind(wrong, 3), BAD);
        }
        DUE.refused("downwind(0, 3) of three", x -> x.downwind(0, 3), BAD);
        DUE.refusedByFull("downwind(0, 8) of eight", x -> x.downwind(0, 8), BAD);
        due("downwind(999999, 1)", Due.laid(Look.CAVE).downwind(999999, 1), 1);
        due("downwind(999995, 1)", Due.laid(Look.CAVE).downwind(999995, 1), 0);
    }

    static void promise13None() {
        DUE.says(13, "are other HALLS to which a way leads from it");
        due("downwind(0, 0) without DOORS", new CaveBreath().downwind(0, 0), 0);
        CaveBreath still = Due.laid(Look.CAVE + "w12,12;");
        due("downwind(0, 0) if air does not go", still.downwind(0, 0), 0);
        CaveBreath x = between(9, 1);
        due("downwind(0, 1) of the last one", x.downwind(0, 1), 0);
        due("downwind(0, 0), not itself", x.downwind(0, 0), 2);
    }

    static void promise13AllTheWay() {
        DUE.says(13, "a way leads from it over DOORS");
        StringBuilder s = new StringBuilder();
        for (int i = 0; i < 8; i++) {
            s.append("h").append(10 * i).append(",0,0;");
        }
        s.append("o0,1,0;");
        // Told from above, so that no order of DOORS or HALLS helps.
        for (int i = 6; i >= 0; i--) {
            s.append("d").append(i + 1).append(",").append(i).append(",1,0;");
        }
        CaveBreath x = Due.laid(s.append("o7,1,0;").toString());
        for (int i = 0; i < 8; i++) {
            due("downwind(0, " + i + ")", x.downwind(0, i), 255 & ~((2 << i) - 1));
            due("downwind(12, " + i + ")", x.downwind(12, i), (1 << i) - 1);
        }
    }

    static void promise13SomethingGoes() {
        DUE.says(13, "over DOORS through which something goes");
        CaveBreath x = Due.laid("h10,0,0;h60,0,0;h61,0,0;o0,1,0;d0,1,1,0;d0,2,50,0;o1,1,0;o2,1,0;");
        due("downwind(0, 0), nothing is left for hall 2", x.downwind(0, 0), 2);
        CaveBreath y = Due.laid("h10,0,0;h60,0,0;h61,0,0;o0,2,0;d0,1,1,0;d0,2,1,0;o1,1,0;o2,1,0;");
        due("downwind(0, 0), one each", y.downwind(0, 0), 6);
        CaveBreath z = Due.laid("h10,0,0;h20,0,0;h60,0,0;d0,1,1,0;o1,1,0;d1,2,1,0;o2,1,0;");
        due("downwind(0, 0), a HALL without AIR", z.downwind(0, 0), 0);
    }

    static void promise13NotByTheOpen() {
        DUE.says(13, "other HALLS to which a way leads from it over DOORS");
        // Two caves, and the OPEN between them is no HALL.
        CaveBreath x = Due.laid("h10,0,0;h60,0,0;h11,0,0;h61,0,0;o0,1,0;d0,1,1,0;o1,1,0;o2,1,0;d2,3,1,0;o3,1,0;");
        due("downwind(0, 0)", x.downwind(0, 0), 2);
        due("downwind(0, 1)", x.downwind(0, 1), 0);
        due("downwind(0, 2)", x.downwind(0, 2), 8);
        due("downwind(12, 3)", x.downwind(12, 3), 4);
    }

    // ---- promise 14: hours

    static void promise14OneToNinetyNine() {
        DUE.says(14, "n HOURS (1 to 99) go by .. BAD.");
        for (int wrong : new int[] {0, -1, 100, 101, 1000, LEAST, MOST}) {
            DUE.refused("hours(" + wrong + ")", x -> x.hours(wrong), BAD);
        }
        CaveBreath x = Due.laid("h10,7,0;");
        due("hours(1)", x.hours(1), 7);
        due("count(2)", x.count(2), 1);
        due("hours(99)", x.hours(99), 700);
        due("count(2)", x.count(2), 100);
    }

    static void promise14OneByOne() {
        DUE.says(14, "n HOURS (1 to 99) go by");
        int[] sizes = {99, 12, 13, 11, 24, 25, 1, 7, 60, 98};
        CaveBreath x = Due.laid(Look.CAVE);
        CaveBreath y = Due.laid(Look.CAVE);
        for (int n : sizes) {
            int last = 0;
            for (int k = 0; k < n; k++) {
                last = y.hours(1);
            }
            due("hours(" + n + ")", x.hours(n), last);
            due("count(3)", x.count(3), y.count(3));
            due("hall(0, 3)", x.hall(0, 3), y.hall(0, 3));
        }
        due("count(2)", x.count(2), 350);
    }

    static void promise14AllSmokeInHalls() {
        DUE.says(14, "all SMOKE in HALLS then");
        due("hours(99) without SMOKE", new CaveBreath().hours(99), 0);
        CaveBreath eight = Due.laid("h1,50,0;".repeat(8));
        due("hours(99) of eight", eight.hours(99), 8 * 50 * 99);
        CaveBreath x = Due.laid(Look.CAVE);
        int all = x.hours(40);
        due("SMOKE of HALLS", all, x.hall(0, 3) + x.hall(1, 3) + x.hall(2, 3));
        due("all that was made, with the OPEN", all + x.count(3), 200);
        DUE.holds("some is in the OPEN", x.count(3) > 0);
        CaveBreath y = Due.laid(Look.GREAT);
        int left = y.hours(40);
        int sum = 0;
        for (int i = 0; i < 8; i++) {
            sum += y.hall(i, 3);
        }
        due("SMOKE of eight HALLS, not of the OPEN", left, sum);
        due("all that was made in eight HALLS", left + y.count(3), 62 * 40);
        DUE.holds("some of eight HALLS is in the OPEN", y.count(3) > 0);
    }

    static void promise14WhateverWasAsked() {
        DUE.says(14, "In an HOUR that goes by");
        CaveBreath x = Due.laid("h10,50,0;" + FLAPS);
        CaveBreath y = Due.laid("h10,50,0;" + FLAPS);
        for (int t = 0; t < 30; t++) {
            // Air of the other half of the DAY, of other settings, of a FLOODED HALL and a shaft is asked for.
            x.air(t + 12, 0);
            x.clean(0);
            x.first(0, t + 12, 0);
            x.shaft(0);
            x.weather(0, 1);
            due("hours(1) past HOUR " + t, x.hours(1), y.hours(1));
            due("hall(0, 3)", x.hall(0, 3), y.hall(0, 3));
        }
        due("hours(13), of UP and DOWN", x.hours(13), y.hours(13));
        CaveBreath first = Due.laid("h10,50,0;" + FLAPS);
        first.hours(1);
        due("hall(0, 3)", first.hall(0, 3), 48);
        first.air(12, 0);
        first.hours(1);
        due("hall(0, 3), 98 less 4", first.hall(0, 3), 94);
    }

    static void promise14Cut() {
        DUE.says(14, "its SMOKE times what goes through that DOOR, by (AIR of that HALL and 20), cut");
        // Through and AIR are 1: of 20 by 21 none goes, of 21 by 21 one, of 41 one, of 42 two.
        int[][] gone = {{1, 0}, {19, 0}, {20, 0}, {21, 1}, {22, 1}, {41, 1}, {42, 2}, {50, 2}};
        for (int[] g : gone) {
            CaveBreath x = Due.laid("h10," + g[0] + ",0;" + FLAPS);
            due("hours(1), " + g[0] + " made", x.hours(1), g[0]);
            due("hall(0, 3)", x.hall(0, 3), g[0] - g[1]);
            due("hall(1, 3)", x.hall(1, 3), g[1]);
            due("count(3)", x.count(3), 0);
        }
        // AIR 2, one through each DOOR: 21 by 22 is none, twice; 22 by 22 is one, twice.
        for (int s : new int[] {21, 22}) {
            CaveBreath y = Due.laid("h10," + s + ",0;h60,0,0;o0,2,0;d0,1,1,0;d0,1,1,0;o1,1,0;");
            y.hours(1);
            due("hall(1, 3), " + s + " made", y.hall(1, 3), s == 22 ? 2 : 0);
        }
    }

    static void promise14AllAtOnce() {
        DUE.says(14, "each HALL has S more of SMOKE; then, all at once");
        // Of 50 by 21 two go on, and two of those that came in this HOUR do not.
        CaveBreath x = Due.laid("h10,50,0;h60,50,0;o0,1,1;d0,1,1,1;o1,1,1;");
        due("hours(1)", x.hours(1), 98);
        due("hall(0, 3)", x.hall(0, 3), 48);
        due("hall(1, 3)", x.hall(1, 3), 50);
        due("count(3)", x.count(3), 2);
        // The higher hall told first: the same.
        CaveBreath y = Due.laid("h60,50,0;h10,50,0;o0,1,1;d0,1,1,1;o1,1,1;");
        due("hours(1), told the other way", y.hours(1), 98);
        due("hall(0, 3), told the other way", y.hall(0, 3), 50);
        due("hall(1, 3), told the other way", y.hall(1, 3), 48);
    }

    static void promise14NothingGoes() {
        DUE.says(14, "each HALL has S more of SMOKE");
        CaveBreath still = Due.laid("h10,50,0;" + FLAPS + "w12,12;");
        due("hours(24) if air does not go", still.hours(24), 1200);
        due("count(3) if air does not go", still.count(3), 0);
        CaveBreath wet = Due.laid("h10,50,0;" + FLAPS + "w5,5;");
        wet.flood(0, true);
        due("hours(24) if FLOODED", wet.hours(24), 1200);
        due("hall(0, 3) if FLOODED", wet.hall(0, 3), 1200);
    }

    static void promise14PastMidnight() {
        DUE.says(14, "HOUR t (0 first) is t modulo 24 of its DAY");
        // Air goes UP, and SMOKE with it, in HOURS 0 to 11 of a DAY alone.
        CaveBreath x = Due.laid("h10,50,0;" + FLAPS);
        int before = 0;
        for (int t = 0; t < 60; t++) {
            int inHall0 = x.hall(0, 3) + 50;
            x.hours(1);
            int want = t % 24 < 12 ? inHall0 - inHall0 / 21 : inHall0;
            due("hall(0, 3) past HOUR " + t, x.hall(0, 3), want);
            DUE.holds("SMOKE goes out UP alone, HOUR " + t, t % 24 < 12 || x.count(3) == before);
            before = x.count(3);
        }
        // The same in one step from the last HOUR of a half DAY on.
        for (int begin : new int[] {11, 23, 35, 47}) {
            CaveBreath one = Due.laid("h10,50,0;" + FLAPS);
            CaveBreath two = Due.laid("h10,50,0;" + FLAPS);
            one.hours(begin);
            two.hours(begin);
            two.hours(1);
            due("hours(2) from " + begin, one.hours(2), two.hours(1));
            due("hall(0, 3)", one.hall(0, 3), two.hall(0, 3));
        }
    }

    static void promise14ToTheLastCall() {
        DUE.says(14, "An object is used for at most 512 calls after it has been made");
        String text = "h0,50,0;h99,50,0;" + "o0,50,0;".repeat(8) + "d0,1,1,0;o1,1,0;w5,5;";
        CaveBreath x = Due.laid(text);
        int calls = (text.length() + 7) / 8 + 2;
        x.set(9, false);
        int hours = 0;
        for (calls += 1; calls < 508; calls++) {
            hours += 99;
            due("hours(99) to " + hours, x.hours(99), 100 * hours);
        }
        due("count(2)", x.count(2), hours);
        x.set(9, true);
        // AIR is 400 in both halls: of all 420 parts 400 go on.
        int gone = (int) ((50L * hours + 50) * 400 / 420);
        due("hours(1), some 950 million to be cut", x.hours(1), 100 * hours + 100 - gone);
        due("count(3), the 512th call", x.count(3), gone);
    }
}
