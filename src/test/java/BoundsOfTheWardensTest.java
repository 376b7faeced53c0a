import java.math.BigInteger;

/** Promises 15 to 26: each sentence on wardens, weather and what is KEPT that names a boundary case, by itself. */
public final class BoundsOfTheWardensTest {
    private static final int BAD = -1, NO = -2, FULL = -3, NONE = -4;
    private static final int LEAST = Integer.MIN_VALUE, MOST = Integer.MAX_VALUE;
    // None of them is a HALL, whatever is LAID; a shift by 32 or 256 is one by 0.
    private static final int[] NEVER = {-1, -32, 8, 9, 10, 31, 32, 33, 256, LEAST, MOST};
    private static final int[] NO_HOURS = {-1, -24, 1000000, 1000012, LEAST, MOST};
    private static final int[] NEITHER = {-1, 2, 3, 256, LEAST, MOST};
    private static final Due DUE = new Due("BoundsOfTheWardensTest");

    // DOORS 0, 1, 2 let air UP from hall 0 to hall 1, if all are open: not CLEAN by SMOKE of hall 0.
    private static final String FOUL_UP = "h10,5,0;h60,0,0;o0,9,0;d0,1,1,0;o1,9,0;s1;";
    // The same DOWN: hall 0 is the WARD, hall 1 makes SMOKE.
    private static final String FOUL_DOWN = "h10,0,0;h60,5,0;o0,9,0;d0,1,1,0;o1,9,0;s0;";

    public static void main(String[] args) {
        DUE.runPromises(BoundsOfTheWardensTest.class, 15, 26);
        DUE.end();
    }

    private static void due(String call, long got, long want) {
        DUE.is(call, got, want);
    }

    // ---- promise 15: clean

    static void promise15SettingsThereAre() {
        DUE.says(15, "a setting of all DOORS (bits, 1 open) .. BAD.");
        for (int wrong : new int[] {-1, -32, 32, 33, 64, 1023, 1024, LEAST, MOST}) {
            DUE.refused("clean(" + wrong + ") of five DOORS", x -> x.clean(wrong), BAD);
        }
        for (int wrong : new int[] {-1, 1024, 2047, 65536, LEAST, MOST}) {
            DUE.refusedByFull("clean(" + wrong + ") of ten DOORS", x -> x.clean(wrong), BAD);
        }
        due("clean(0) without DOORS", new CaveBreath().clean(0), 1);
        due("clean(1) without DOORS", new CaveBreath().clean(1), BAD);
        CaveBreath one = Due.laid("h10,0,0;o0,1,0;");
        due("clean(1) of one DOOR", one.clean(1), 1);
        due("clean(2) of one DOOR", one.clean(2), BAD);
        CaveBreath ten = Due.laid("h10,0,0;" + "o0,1,0;".repeat(10));
        due("clean(1023) of ten DOORS", ten.clean(1023), 1);
        due("clean(1024) of ten DOORS", ten.clean(1024), BAD);
        due("clean(31) of five DOORS", Due.laid(Look.CAVE).clean(31), 0);
    }

    static void promise15BitsNotDoors() {
        DUE.says(15, "a setting of all DOORS (bits, 1 open)");
        CaveBreath x = Due.laid(FOUL_UP);
        for (int set = 0; set < 8; set++) {
            due("clean(" + set + "), all open now", x.clean(set), set == 7 ? 0 : 1);
        }
        x.set(1, false);
        due("clean(7), one shut now", x.clean(7), 0);
        due("door(1, 4), shut still", x.door(1, 4), 0);
        CaveBreath leaky = Due.laid("h10,5,0;h60,0,0;o0,9,0;d0,1,4,2;o1,9,0;s1;");
        due("clean(5), LEAKY 4 and shut", leaky.clean(5), 0);
        CaveBreath tight = Due.laid("h10,5,0;h60,0,0;o0,9,0;d0,1,3,2;o1,9,0;s1;");
        due("clean(5), LEAKY 3 and shut", tight.clean(5), 1);
    }

    static void promise15NeverDownwind() {
        DUE.says(15, "in HOURS 0 to 23 the WARD is never DOWNWIND");
        due("UP in HOURS 0 to 11 alone", Due.laid(FOUL_UP + "w11,13;").clean(7), 0);
        due("UP in HOURS 12 to 23 alone", Due.laid(FOUL_UP + "w13,11;").clean(7), 0);
        due("UP never", Due.laid(FOUL_UP + "w12,13;").clean(7), 1);
        due("DOWN in HOURS 0 to 11 alone", Due.laid(FOUL_DOWN + "w13,11;").clean(7), 0);
        due("DOWN in HOURS 12 to 23 alone", Due.laid(FOUL_DOWN + "w11,13;").clean(7), 0);
        due("DOWN never", Due.laid(FOUL_DOWN + "w12,11;").clean(7), 1);
    }

    static void promise15SmokeAboveNone() {
        DUE.says(15, "of a HALL with S above 0");
        due("S 0", Due.laid(FOUL_UP.replace("h10,5", "h10,0")).clean(7), 1);
        due("S 1", Due.laid(FOUL_UP.replace("h10,5", "h10,1")).clean(7), 0);
        due("S 50", Due.laid(FOUL_UP.replace("h10,5", "h10,50")).clean(7), 0);
        due("S of the WARD itself", Due.laid(FOUL_UP + "s0;w5,5;").clean(7), 1);
        CaveBreath x = Due.laid(FOUL_UP.replace("h10,5", "h10,0").replace("h60,0", "h60,5") + "w5,12;");
        x.hours(20);
        due("SMOKE in the WARD", x.clean(7), 1);
    }

    static void promise15AirEnough() {
        DUE.says(15, "each HALL has AIR N or more");
        String halls = "h10,0,9;h60,0,9;o0,9,0;d0,1,1,0;o1,9,0;";
        due("AIR 9, N 9", Due.laid(halls).clean(7), 1);
        due("AIR 9, N 10 in hall 0", Due.laid(halls.replace("h10,0,9", "h10,0,10")).clean(7), 0);
        due("AIR 9, N 10 in hall 1", Due.laid(halls.replace("h60,0,9", "h60,0,10")).clean(7), 0);
        due("AIR 8 DOWN alone", Due.laid(halls.replace("o1,9", "o1,8")).clean(7), 0);
        due("AIR 8 UP alone", Due.laid(halls.replace("o0,9", "o0,8")).clean(7), 0);
        due("AIR 0, N 0", Due.laid("h10,0,0;o0,9,0;").clean(1), 1);
        due("AIR 0, N 1", Due.laid("h10,0,1;o0,9,0;").clean(1), 0);
        due("N 1 of the last of eight", Due.laid("h10,0,0;".repeat(7) + "h10,0,1;").clean(0), 0);
        due("N 0 of all eight", Due.laid("h10,0,0;".repeat(8)).clean(0), 1);
        String most = "h10,0,99;h60,0,99;o0,50,0;o0,49,0;d0,1,1,0;o1,1,0;w5,5;";
        due("AIR 99, N 99", Due.laid(most).clean(15), 1);
        due("AIR 98, N 99", Due.laid(most.replace("49", "48")).clean(15), 0);
    }

    static void promise15WheneverAirGoes() {
        DUE.says(15, "whenever air goes");
        String halls = "h10,0,9;h60,0,9;o0,9,0;d0,1,1,0;o1,1,0;";
        due("too little DOWN", Due.laid(halls).clean(7), 0);
        due("not in HOURS 12 to 23", Due.laid(halls + "w5,12;").clean(7), 1);
        due("not in HOURS 0 to 11", Due.laid(halls + "w12,5;").clean(7), 1);
        due("never", Due.laid(halls + "w12,12;").clean(0), 1);
        due("never, N 99", Due.laid("h10,0,99;w12,12;").clean(0), 1);
    }

    static void promise15Flooded() {
        DUE.says(15, "FLOODED ones as they are");
        CaveBreath x = Due.laid(FOUL_UP);
        x.flood(0, true);
        due("the HALL with SMOKE", x.clean(7), 1);
        x.flood(0, false);
        due("DRY again", x.clean(7), 0);
        x.flood(1, true);
        due("the WARD", x.clean(7), 1);
        CaveBreath needs = Due.laid("h10,0,9;h60,0,9;o0,9,0;d0,1,1,0;o1,9,0;");
        needs.flood(1, true);
        due("a HALL that needs AIR", needs.clean(7), 0);
    }

    // ---- promise 16: settings

    static void promise16What() {
        DUE.says(16, "how many (what = 0), the nearest (1). NONE; BAD.");
        for (int wrong : NEITHER) {
            DUE.refused("settings(" + wrong + ")", x -> x.settings(wrong), BAD);
        }
        CaveBreath none = Due.laid("h10,0,1;o0,9,0;");
        due("settings(2) is BAD, not NONE", none.settings(2), BAD);
        due("settings(-1) is BAD, not NONE", none.settings(-1), BAD);
    }

    static void promise16None() {
        DUE.says(16, "how many are CLEAN; .. none");
        CaveBreath x = Due.laid("h10,0,1;o0,9,0;");
        due("settings(0)", x.settings(0), 0);
        due("settings(1)", x.settings(1), NONE);
        CaveBreath bare = Due.laid("h10,0,1;");
        due("settings(0) without DOORS", bare.settings(0), 0);
        due("settings(1) without DOORS", bare.settings(1), NONE);
    }

    static void promise16NoDoors() {
        DUE.says(16, "all settings gone through");
        due("settings(0) without DOORS", new CaveBreath().settings(0), 1);
        due("settings(1) without DOORS", new CaveBreath().settings(1), 0);
    }

    static void promise16TenDoors() {
        DUE.says(16, "all settings gone through");
        CaveBreath x = Due.laid("h10,0,0;" + "o0,1,0;".repeat(10));
        due("settings(0), all of them", x.settings(0), 1024);
        due("settings(1), as it is", x.settings(1), 1023);
        x.set(9, false);
        due("settings(1), the last one shut", x.settings(1), 511);
        for (int d = 0; d < 9; d++) {
            x.set(d, false);
        }
        due("settings(1), all shut", x.settings(1), 0);
        // All ten must be open: eight ways in of 12 and 11, one on, one out.
        String needy = "h10,0,95;h60,0,0;o0,12,0;" + "o0,12,0;".repeat(6) + "o0,11,0;d0,1,1,0;o1,1,0;w5,5;";
        CaveBreath y = Due.laid(needy);
        due("settings(0), one alone", y.settings(0), 1);
        for (int d = 0; d < 10; d++) {
            y.set(d, false);
        }
        due("settings(1), ten changes away", y.settings(1), 1023);
    }

    static void promise16Fewest() {
        DUE.says(16, "the one by which the fewest DOORS are other than now");
        CaveBreath x = Due.laid(FOUL_UP);
        due("settings(0)", x.settings(0), 7);
        for (int now = 0; now < 7; now++) {
            for (int d = 0; d < 3; d++) {
                x.set(d, (now >> d & 1) == 1);
            }
            due("settings(1) of a CLEAN one", x.settings(1), now);
        }
        CaveBreath far = Due.laid("h10,0,9;h60,0,9;o0,9,0;d0,1,1,0;o1,9,0;o1,1,3;w5,5;");
        far.set(0, false);
        due("settings(1), one change", far.settings(1), 15);
        far.set(3, false);
        due("settings(1), a BRICKED one stays shut", far.settings(1), 7);
        far.set(1, false);
        far.set(2, false);
        due("settings(1), three changes", far.settings(1), 7);
        due("door(0, 4), nothing is set by it", far.door(0, 4), 0);
    }

    static void promise16Lowest() {
        DUE.says(16, "of several the lowest");
        due("settings(1) of 3, 5, 6", Due.laid(FOUL_UP).settings(1), 3);
        // DOORS 0 and 1 are beside each other, so that to shut one of them does not do; 2 or 3 does.
        CaveBreath x = Due.laid("h10,5,0;h60,0,0;d0,1,1,0;d0,1,1,0;o0,9,0;o1,9,0;s1;");
        due("settings(1) of 7, 11", x.settings(1), 7);
    }

    // ---- promise 17: first

    static void promise17Bad() {
        DUE.says(17, "the DOOR (what = 0), how much (1). BAD.");
        for (int wrong : NEVER) {
            DUE.refused("first(" + wrong + ", 0, 0)", x -> x.first(wrong, 0, 0), BAD);
        }
        for (int wrong : NO_HOURS) {
            DUE.refused("first(0, " + wrong + ", 0)", x -> x.first(0, wrong, 0), BAD);
        }
        for (int wrong : NEITHER) {
            DUE.refused("first(0, 0, " + wrong + ")", x -> x.first(0, 0, wrong), BAD);
        }
        DUE.refused("first(3, 0, 0) of three", x -> x.first(3, 0, 0), BAD);
        DUE.refusedByFull("first(8, 0, 0) of eight", x -> x.first(8, 0, 0), BAD);
        CaveBreath x = Due.laid(Look.CAVE);
        due("first(2, 999999, 1)", x.first(2, 999999, 1), 7);
        due("first(2, 999995, 1)", x.first(2, 999995, 1), 22);
    }

    static void promise17NoChangeGivesMore() {
        DUE.says(17, "(told as how many DOORS there are, if no change gives more than none)");
        CaveBreath bare = new CaveBreath();
        due("first(0, 0, 0) without DOORS", bare.first(0, 0, 0), 0);
        due("first(0, 0, 1) without DOORS", bare.first(0, 0, 1), 0);
        CaveBreath x = Due.laid(Look.CAVE);
        due("first(2, 0, 0), as much by some changes", x.first(2, 0, 0), 5);
        due("first(2, 0, 1)", x.first(2, 0, 1), 22);
        due("first(1, 0, 0), the WARD FLOODED", x.first(1, 0, 0), 5);
        due("first(1, 0, 1), the WARD FLOODED", x.first(1, 0, 1), 0);
        CaveBreath ten = Due.laid("h10,0,0;" + "o0,1,0;".repeat(10));
        due("first(0, 0, 0) of ten", ten.first(0, 0, 0), 10);
        CaveBreath still = Due.laid(Look.CAVE + "w12,12;");
        due("first(2, 0, 0) if air does not go", still.first(2, 0, 0), 5);
        due("first(2, 0, 1) if air does not go", still.first(2, 0, 1), 0);
    }

    /** Hall 0 has a way in, hall 1 is the WARD; hall 2 stands aside. DOORS 1 and 2 are LEAKY and alike. */
    private static CaveBreath twoLeaks(int in) {
        return Due.laid("h10,0,0;h60,0,0;h5,0,0;o0," + in + ",0;o0,4,2;o0,4,2;d0,1,1,0;o1,1,0;s1;");
    }

    static void promise17More() {
        DUE.says(17, "by whose change (from open to shut, or back) alone the WARD has most AIR in HOUR t");
        CaveBreath x = twoLeaks(9);
        x.set(1, false);
        due("first(2, 0, 0), 3 more", x.first(2, 0, 0), 1);
        due("first(2, 0, 1), 3 more", x.first(2, 0, 1), 17);
        x.set(1, true);
        x.set(0, false);
        due("first(2, 0, 0), DOOR 0 of all", x.first(2, 0, 0), 0);
        due("first(2, 0, 1), DOOR 0 of all", x.first(2, 0, 1), 17);
        // Of 3 by 1, 1, 1 the WARD has 1; 2 of 3 by 1, 1, if DOOR 1 or 3 is shut; all, if DOOR 5 is.
        String three = "h10,0,0;h60,0,0;h61,0,0;h5,0,0;o0,3,0;d0,2,1,0;d0,1,1,0;d0,2,1,0;o1,1,0;o2,4,";
        CaveBreath y = Due.laid(three + "0;s1;");
        due("air(0, 1) of 3 by three", y.air(0, 1), 1);
        due("first(3, 0, 0), to shut the other way out", y.first(3, 0, 0), 5);
        due("first(3, 0, 1), to shut the other way out", y.first(3, 0, 1), 3);
        CaveBreath leaky = Due.laid(three + "2;s1;");
        due("first(3, 0, 0), one more is enough", leaky.first(3, 0, 0), 1);
        due("first(3, 0, 1), one more is enough", leaky.first(3, 0, 1), 2);
        // By HOUR 12 the last DOOR leads in and is the one that counts.
        x.set(0, true);
        x.set(4, false);
        due("first(2, 12, 0)", x.first(2, 12, 0), 4);
        due("first(2, 12, 1)", x.first(2, 12, 1), 1);
    }

    static void promise17Lowest() {
        DUE.says(17, "the lowest");
        CaveBreath x = twoLeaks(9);
        x.set(1, false);
        x.set(2, false);
        due("first(2, 0, 0) of two alike", x.first(2, 0, 0), 1);
        due("first(2, 0, 1) of two alike", x.first(2, 0, 1), 14);
        x.set(0, false);
        due("first(2, 0, 0), the one that gives most", x.first(2, 0, 0), 0);
        due("first(2, 0, 1), the one that gives most", x.first(2, 0, 1), 11);
        CaveBreath later = twoLeaks(2);
        later.set(0, false);
        later.set(1, false);
        later.set(2, false);
        due("first(2, 0, 0), 2 by DOOR 0, 3 by the next", later.first(2, 0, 0), 1);
        due("first(2, 0, 1), 2 by DOOR 0, 3 by the next", later.first(2, 0, 1), 5);
    }

    static void promise17Besides() {
        DUE.says(17, "a HALL being FLOODED besides");
        CaveBreath x = twoLeaks(9);
        x.set(1, false);
        due("first(0, 0, 1), the way in FLOODED", x.first(0, 0, 1), 0);
        x.flood(2, true);
        due("first(2, 0, 1), FLOODED already", x.first(2, 0, 1), 17);
        due("hall(2, 4), FLOODED still", x.hall(2, 4), 1);
        due("hall(0, 4), DRY still", x.hall(0, 4), 0);
        x.flood(0, true);
        due("first(2, 0, 1), hall 0 FLOODED, too", x.first(2, 0, 1), 0);
        due("door(1, 4), shut still", x.door(1, 4), 0);
    }

    // ---- promise 18: smelled

    static void promise18Bad() {
        DUE.says(18, "in HOUR h (0 to 23) HALL I did, or did not .. BAD");
        for (int wrong : new int[] {-1, 24, 25, 256, 999999, LEAST, MOST}) {
            DUE.refused("smelled(" + wrong + ", 0, true)", x -> x.smelled(wrong, 0, true), BAD);
            DUE.refused("smelled(" + wrong + ", 3, true)", x -> x.smelled(wrong, 3, true), BAD);
        }
        for (int wrong : NEVER) {
            DUE.refused("smelled(0, " + wrong + ", false)", x -> x.smelled(0, wrong, false), BAD);
        }
        DUE.refused("smelled(0, 3, true) of three", x -> x.smelled(0, 3, true), BAD);
        CaveBreath x = Look.inUse();
        due("smelled(0, 0, true)", x.smelled(0, 0, true), 2);
        due("smelled(23, 2, false)", x.smelled(23, 2, false), 3);
        due("smelled(23, 2, false), told again", x.smelled(23, 2, false), 4);
    }

    static void promise18Ten() {
        DUE.says(18, "SMELLED (10 at most)");
        CaveBreath x = Due.laid(Look.CAVE);
        for (int k = 1; k <= 10; k++) {
            due("smelled, " + k, x.smelled(0, 0, true), k);
        }
        due("smelled, 11", x.smelled(0, 0, true), FULL);
        due("count(4)", x.count(4), 10);
        DUE.refusedByFull("smelled(0, 0, true)", y -> y.smelled(0, 0, true), FULL);
        DUE.refusedByFull("smelled(23, 7, false)", y -> y.smelled(23, 7, false), FULL);
    }

    static void promise18BadAheadOfFull() {
        DUE.says(18, "BAD .. FULL. Of several the first in this order");
        DUE.refusedByFull("smelled(24, 0, true)", x -> x.smelled(24, 0, true), BAD);
        DUE.refusedByFull("smelled(-1, 0, true)", x -> x.smelled(-1, 0, true), BAD);
        DUE.refusedByFull("smelled(0, 8, true)", x -> x.smelled(0, 8, true), BAD);
        DUE.refusedByFull("smelled(0, -1, true)", x -> x.smelled(0, -1, true), BAD);
    }

    // ---- promise 19: forget

    static void promise19HowManyWere() {
        DUE.says(19, "Nothing SMELLED: how many were");
        CaveBreath x = Look.full();
        due("forget() of ten", x.forget(), 10);
        due("count(4)", x.count(4), 0);
        due("burns()", x.burns(), 255);
        due("forget() of none", x.forget(), 0);
        due("smelled, there is room again", x.smelled(0, 0, true), 1);
        due("forget() of one", x.forget(), 1);
    }

    static void promise19NothingElse() {
        DUE.says(19, "Nothing SMELLED");
        CaveBreath x = Look.inUse();
        x.forget();
        x.smelled(3, 1, true);
        DUE.alike("it is forgotten and told again", Look.throughAll(x), Look.throughAll(Look.inUse()));
    }

    // ---- promise 20: burns

    static void promise20NothingTold() {
        DUE.says(20, "the HALLS (bits) by which all that was told is so");
        due("burns() of one HALL", new CaveBreath().burns(), 1);
        due("burns() of three", Due.laid(Look.CAVE).burns(), 7);
        due("burns() of eight", Due.laid(Look.GREAT).burns(), 255);
    }

    static void promise20NoHall() {
        DUE.says(20, "the HALLS (bits) by which all that was told is so");
        CaveBreath x = new CaveBreath();
        x.smelled(0, 0, false);
        due("burns(), not in the one HALL", x.burns(), 0);
        CaveBreath y = Due.laid(Look.CAVE);
        y.smelled(0, 1, true);
        y.smelled(0, 1, false);
        due("burns(), it was and it was not", y.burns(), 0);
    }

    static void promise20AllTen() {
        DUE.says(20, "all that was told is so");
        for (int odd = 0; odd < 10; odd++) {
            CaveBreath x = Due.laid(Look.CAVE);
            for (int k = 0; k < 10; k++) {
                // UP all three HALLS bring it to hall 1; not to hall 0 means hall 1 or 2.
                x.smelled(k, k == odd ? 0 : 1, k != odd);
            }
            due("burns(), number " + odd + " is unlike", x.burns(), 6);
        }
    }

    static void promise20EachHour() {
        DUE.says(20, "in each HOUR it is smelled there and in HALLS DOWNWIND of it alone");
        for (int h = 0; h < 24; h++) {
            CaveBreath x = Due.laid(Look.CAVE);
            x.smelled(h, 0, true);
            // UP hall 0 is DOWNWIND of none, DOWN of hall 1.
            due("burns(), hall 0 did in HOUR " + h, x.burns(), h < 12 ? 1 : 3);
            x.forget();
            x.smelled(h, 1, true);
            due("burns(), hall 1 did in HOUR " + h, x.burns(), h < 12 ? 7 : 2);
            x.forget();
            x.smelled(h, 1, false);
            due("burns(), hall 1 did not in HOUR " + h, x.burns(), h < 12 ? 0 : 5);
        }
    }

    static void promise20ThereAlone() {
        DUE.says(20, "it is smelled there and in HALLS DOWNWIND of it alone");
        CaveBreath still = Due.laid(Look.GREAT + "w12,12;");
        for (int i = 0; i < 8; i++) {
            still.smelled(5, i, true);
            due("burns(), air does not go, hall " + i, still.burns(), 1 << i);
            still.forget();
            still.smelled(5, i, false);
            due("burns(), not hall " + i, still.burns(), 255 & ~(1 << i));
            still.forget();
        }
        CaveBreath wet = Due.laid(Look.CAVE);
        wet.flood(2, true);
        wet.smelled(0, 2, true);
        due("burns(), a FLOODED HALL", wet.burns(), 4);
    }

    // ---- promise 21: shaft

    static void promise21What() {
        DUE.says(21, "the HALL (what = 0), how much (1). BAD");
        for (int wrong : NEITHER) {
            DUE.refused("shaft(" + wrong + ")", x -> x.shaft(wrong), BAD);
        }
    }

    static void promise21TenDoors() {
        DUE.says(21, "NO: there are 10 DOORS");
        DUE.refusedByFull("shaft(0)", x -> x.shaft(0), NO);
        DUE.refusedByFull("shaft(1)", x -> x.shaft(1), NO);
        CaveBreath nine = Due.laid("h10,0,0;h60,0,0;" + "o0,50,0;".repeat(7) + "d0,1,1,0;o1,1,0;w5,5;");
        due("shaft(0) of nine", nine.shaft(0), 0);
        due("shaft(1) of nine", nine.shaft(1), 360);
        due("count(1) of nine", nine.count(1), 9);
    }

    static void promise21BadAheadOfNo() {
        DUE.says(21, "BAD .. NO .. Of several the first in this order");
        for (int wrong : NEITHER) {
            DUE.refusedByFull("shaft(" + wrong + ")", x -> x.shaft(wrong), BAD);
        }
    }

    static void promise21NoHelp() {
        DUE.says(21, "greatest, the lowest; that AIR");
        due("shaft(0) of a HALL alone", new CaveBreath().shaft(0), 0);
        due("shaft(1) of a HALL alone", new CaveBreath().shaft(1), 0);
        CaveBreath still = Due.laid("h60,0,0;h10,0,0;o1,5,0;d0,1,1,0;o0,9,0;w5,12;");
        due("shaft(0) if air does not go in half a DAY", still.shaft(0), 0);
        due("shaft(1) if air does not go in half a DAY", still.shaft(1), 0);
    }

    static void promise21Lowest() {
        DUE.says(21, "is greatest, the lowest");
        // UP hall 1 or hall 2, below, help alike; hall 0, the WARD, has 5 without.
        CaveBreath x = Due.laid("h60,0,0;h10,0,0;h11,0,0;o1,5,0;d0,1,1,0;d0,2,1,0;o0,9,0;w5,5;");
        due("shaft(0) of two alike", x.shaft(0), 1);
        due("shaft(1) of two alike", x.shaft(1), 15);
        x.flood(1, true);
        due("shaft(0), hall 1 FLOODED", x.shaft(0), 2);
        due("shaft(1), hall 1 FLOODED", x.shaft(1), 10);
        // All help as little: the lowest.
        CaveBreath y = Due.laid("h60,0,0;h10,0,0;o0,9,0;o1,5,0;");
        due("shaft(0), none helps", y.shaft(0), 0);
        due("shaft(1), none helps", y.shaft(1), 0);
        // The last of eight.
        CaveBreath last = Due.laid("h60,0,0;".repeat(7) + "h10,0,0;d0,7,1,0;o0,1,0;w5,5;");
        due("shaft(0), hall 7", last.shaft(0), 7);
        due("shaft(1), hall 7", last.shaft(1), 10);
        String nine = "h60,0,0;".repeat(7) + "h10,0,0;" + "o1,1,3;".repeat(7) + "d0,7,1,0;o0,1,0;w5,5;";
        due("shaft(0), hall 7 and nine DOORS", Due.laid(nine).shaft(0), 7);
        due("shaft(1), hall 7 and nine DOORS", Due.laid(nine).shaft(1), 10);
    }

    static void promise21AsLaid() {
        DUE.says(21, "if it had one DOOR more into the OPEN (the last one, PLAIN, 10 wide, open)");
        // UP hall 0 has 5, 12 by DOOR 1 (LEAKY, shut), none by 2 (BRICKED), 10 by a shaft: the WARD has 1 in 3 of it.
        CaveBreath x = Due.laid(
            "h20,0,0;h30,0,0;h31,0,0;o0,5,0;o0,50,2;o0,50,3;d0,1,1,1;o1,1,0;d0,2,2,0;o2,1,0;s1;m25;c40;w39,39;");
        x.set(1, false);
        due("shaft(0)", x.shaft(0), 0);
        due("shaft(1)", x.shaft(1), 9);
        for (String other : new String[] {"", "h9,9,9;h8,8,8;o0,3,2;o1,3,0;o1,3,1;d0,1,1,3;m1;c1;w99,99;s0;v9;", "h9,9,9;x"}) {
            x.wipe();
            Due.write(x, other);
            x.fault();
            due("shaft(0), THE TEXT being " + other, x.shaft(0), 0);
            due("shaft(1), THE TEXT being " + other, x.shaft(1), 9);
        }
        x.set(0, false);
        // 22 in 3 parts: 7 and 14, and the one left goes by the lowest DOOR.
        due("shaft(1), 10 and what is LEAKY", x.shaft(1), 8);
    }

    static void promise21TheLastOne() {
        DUE.says(21, "(the last one, PLAIN, 10 wide, open)");
        // Hall 2 has 5 and hands on 4 and 0 by DOORS 3 (43 wide, into the OPEN) and 4 (2 wide, to the WARD); the one
        // left goes by DOOR 3. With a shaft of hall 2: 3, 0, and 0 by the shaft; two are left, for DOORS 3 and 4.
        CaveBreath x = Due.laid("h78,0,0;h0,0,0;h76,0,0;o0,5,0;o1,5,0;d1,2,1,0;o2,43,0;d0,2,2,0;w5,5;");
        due("air(0, 0) without", x.air(0, 0), 0);
        due("shaft(0)", x.shaft(0), 2);
        due("shaft(1)", x.shaft(1), 1);
        // Hall 0 has 29 for DOORS 0 (22 wide) and 1, to the WARD: 19, 0, 8 and two left, so that it has 1 as by others.
        CaveBreath y = Due.laid("h55,0,0;h16,0,0;h70,0,0;o0,22,0;d2,0,1,0;o2,1,0;o1,29,0;d1,0,1,0;s2;w5,5;");
        due("shaft(0), all alike", y.shaft(0), 0);
        due("shaft(1), all alike", y.shaft(1), 1);
    }

    static void promise21LeastOfTheDay() {
        DUE.says(21, "the WARD's least AIR in HOURS 0 to 23 is greatest");
        // UP 5 come in by hall 0, DOWN 7 by hall 1: a shaft of hall 0 helps UP, of hall 1 DOWN.
        String halls = "h10,0,0;h60,0,0;o0,5,0;d0,1,1,0;o1,7,0;s1;";
        due("shaft(0), the least is UP", Due.laid(halls).shaft(0), 0);
        due("shaft(1), 15 and 7", Due.laid(halls).shaft(1), 7);
        due("shaft(0), the least is DOWN", Due.laid(halls.replace("o0,5", "o0,8")).shaft(0), 1);
        due("shaft(1), 8 and 17", Due.laid(halls.replace("o0,5", "o0,8")).shaft(1), 8);
        due("shaft(0), alike", Due.laid(halls.replace("o0,5", "o0,7")).shaft(0), 0);
        due("shaft(1), DOWN in HOURS 0 to 11", Due.laid(halls + "w13,11;").shaft(1), 7);
    }

    static void promise21ChangesNothing() {
        DUE.says(21, "if it had one DOOR more");
        CaveBreath x = Look.inUse();
        x.shaft(0);
        x.shaft(1);
        DUE.alike("shaft is asked", Look.throughAll(x), Look.throughAll(Look.inUse()));
    }

    // ---- promise 22: lamps

    static void promise22Bad() {
        DUE.says(22, "LAMPS. BAD.");
        for (int wrong : NEVER) {
            DUE.refused("lamps(" + wrong + ")", x -> x.lamps(wrong), BAD);
        }
        DUE.refused("lamps(3) of three", x -> x.lamps(3), BAD);
        DUE.refusedByFull("lamps(8) of eight", x -> x.lamps(8), BAD);
        due("lamps(0) of one", new CaveBreath().lamps(0), 0);
        due("lamps(7) of eight", Due.laid("h10,0,0;".repeat(8)).lamps(7), 0);
    }

    static void promise22Cut() {
        DUE.says(22, "its least AIR in HOURS 0 to 23 by 3, cut");
        int[][] lamps = {{1, 0}, {2, 0}, {3, 1}, {4, 1}, {5, 1}, {6, 2}, {48, 16}, {49, 16}, {50, 16}};
        for (int[] w : lamps) {
            String halls = "h10,0,0;h60,0,0;o0," + w[0] + ",0;d0,1,1,0;o1," + w[0] + ",0;";
            due("lamps(0) of " + w[0], Due.laid(halls).lamps(0), w[1]);
            due("lamps(1) of " + w[0], Due.laid(halls).lamps(1), w[1]);
        }
        CaveBreath most = Due.laid("h10,0,0;h60,0,0;" + "o0,50,0;".repeat(8) + "d0,1,1,0;o1,1,0;w5,5;");
        due("lamps(0) of 400", most.lamps(0), 133);
    }

    static void promise22Least() {
        DUE.says(22, "its least AIR in HOURS 0 to 23");
        String halls = "h10,0,0;h60,0,0;o0,6,0;d0,1,1,0;o1,9,0;";
        due("lamps(0), UP 6, DOWN 9", Due.laid(halls).lamps(0), 2);
        due("lamps(0), UP 9, DOWN 6", Due.laid(halls.replace("o0,6", "o0,9").replace("o1,9", "o1,6")).lamps(0), 2);
        due("lamps(0), UP alone", Due.laid(halls + "w5,5;").lamps(0), 2);
        due("lamps(0), DOWN alone", Due.laid(halls + "w20,20;").lamps(0), 3);
        due("lamps(0), air does not go from 12 on", Due.laid(halls + "w5,12;").lamps(0), 0);
        due("lamps(0), air does not go up to 11", Due.laid(halls + "w12,20;").lamps(0), 0);
    }

    // ---- promise 23: weather

    /** ((x times x) modulo 65521) modulo (V and 1), in numbers without a bound. */
    private static int warmer(int z, int day, int v) {
        BigInteger x = BigInteger.valueOf(7919).multiply(BigInteger.valueOf(z))
            .add(BigInteger.valueOf(6151).multiply(BigInteger.valueOf(day))).add(BigInteger.ONE);
        return x.multiply(x).mod(BigInteger.valueOf(65521)).mod(BigInteger.valueOf(v + 1)).intValue();
    }

    static void promise23Bad() {
        DUE.says(23, "WEATHER by z (0 to 9999) .. (n 1 to 30) .. BAD");
        for (int wrong : new int[] {-1, 10000, 10001, 65536, LEAST, MOST}) {
            DUE.refused("weather(" + wrong + ", 1)", x -> x.weather(wrong, 1), BAD);
            DUE.refused("weather(" + wrong + ", 31)", x -> x.weather(wrong, 31), BAD);
        }
        for (int wrong : new int[] {0, -1, 31, 32, 99, 100, LEAST, MOST}) {
            DUE.refused("weather(0, " + wrong + ")", x -> x.weather(0, wrong), BAD);
        }
        CaveBreath x = new CaveBreath();
        due("weather(0, 1)", x.weather(0, 1), 1);
        due("weather(9999, 30)", x.weather(9999, 30), 30);
    }

    static void promise23Draws() {
        DUE.says(23, "((x times x) modulo 65521) modulo (V and 1) warmer, x being 7919 z, 6151 d and 1 together");
        for (int v : new int[] {0, 1, 29, 30}) {
            // Foul while it is colder than 10 and k; so it shows on how many DAYS it is k warmer, or more.
            for (int k = 0; k <= v + 1; k++) {
                CaveBreath x = Due.laid(FOUL_UP + "w10,10;c" + (10 + k) + ";v" + v + ";");
                for (int z : new int[] {0, 1, 5, 8273, 9998, 9999}) {
                    int good = 0;
                    for (int day = 0; day < 30; day++) {
                        good += warmer(z, day, v) >= k ? 1 : 0;
                    }
                    due("weather(" + z + ", 30), V " + v + ", by " + k, x.weather(z, 30), good);
                }
            }
        }
    }

    static void promise23Days() {
        DUE.says(23, "in how many of DAYS 0 to n less 1 (n 1 to 30)");
        CaveBreath x = Due.laid(FOUL_UP + "w10,10;c20;v30;");
        int good = 0;
        for (int n = 1; n <= 30; n++) {
            good += warmer(9999, n - 1, 30) >= 10 ? 1 : 0;
            due("weather(9999, " + n + ")", x.weather(9999, n), good);
        }
        DUE.holds("some days are good, some not", good > 0 && good < 30);
        x.hours(99);
        due("weather(9999, 30), whatever the HOUR is", x.weather(9999, 30), good);
        due("weather(0, 30) of all, no SMOKE", Due.laid(FOUL_UP.replace("h10,5", "h10,0")).weather(0, 30), 30);
        due("weather(0, 30) of none, V 0", Due.laid(FOUL_UP).weather(0, 30), 0);
    }

    static void promise23InNoHour() {
        DUE.says(23, "DOWNWIND of a HALL with S above 0 in no HOUR");
        due("UP up to 11", Due.laid(FOUL_UP + "w11,12;").weather(0, 30), 0);
        due("UP from 12 on", Due.laid(FOUL_UP + "w12,11;").weather(0, 30), 0);
        due("UP never", Due.laid(FOUL_UP + "w12,13;").weather(0, 30), 30);
        due("DOWN up to 11", Due.laid(FOUL_DOWN + "w13,12;").weather(0, 30), 0);
        due("DOWN from 12 on", Due.laid(FOUL_DOWN + "w12,13;").weather(0, 30), 0);
        due("DOWN never", Due.laid(FOUL_DOWN + "w11,12;").weather(0, 30), 30);
        due("S of the WARD alone", Due.laid(FOUL_UP + "s0;").weather(0, 30), 30);
    }

    static void promise23BeyondNinetyNine() {
        DUE.says(23, "outside it is .. warmer .. in all its HOURS");
        int asWarm = 0;
        for (int day = 0; day < 30; day++) {
            asWarm += warmer(3, day, 3) == 0 ? 1 : 0;
        }
        DUE.holds("some days are warmer, some not", asWarm > 0 && asWarm < 30);
        due("99 and more by c99;", Due.laid(FOUL_DOWN + "w99,99;c99;v3;").weather(3, 30), asWarm);
    }

    // ---- promise 24: keep

    static void promise24TwoAtMost() {
        DUE.says(24, "KEPT: how many. FULL .. 2 at most");
        CaveBreath x = new CaveBreath();
        due("keep()", x.keep(), 1);
        due("keep()", x.keep(), 2);
        due("keep()", x.keep(), FULL);
        due("count(5)", x.count(5), 2);
        DUE.refusedByFull("keep()", y -> y.keep(), FULL);
    }

    static void promise24RoomAgain() {
        DUE.says(24, "KEPT: how many");
        CaveBreath x = Look.full();
        x.back();
        due("keep() past back()", x.keep(), 2);
        due("keep() beyond", x.keep(), FULL);
        x.lay();
        due("keep() past lay()", x.keep(), 1);
    }

    static void promise24ChangesNothingElse() {
        DUE.says(24, "KEPT");
        CaveBreath x = Look.inUse();
        x.keep();
        due("back()", x.back(), 1);
        DUE.alike("it is KEPT and brought back", Look.throughAll(x), Look.throughAll(Look.inUse()));
    }

    // ---- promise 25: back

    static void promise25Nothing() {
        DUE.says(25, "NO");
        CaveBreath x = new CaveBreath();
        due("back() of a new object", x.back(), NO);
        CaveBreath y = Look.inUse();
        CaveBreath z = Look.inUse();
        y.back();
        z.back();
        due("back() of nothing KEPT", y.back(), NO);
        due("back() once more", y.back(), NO);
        DUE.alike("back() is refused", Look.throughAll(y), Look.throughAll(z));
    }

    static void promise25LastFirst() {
        DUE.says(25, "As KEPT last (it is KEPT no more then): how many are left");
        CaveBreath x = Due.laid("h10,1,0;o0,1,0;");
        x.hours(3);
        x.keep();
        x.hours(4);
        x.keep();
        x.hours(5);
        due("back()", x.back(), 1);
        due("count(2)", x.count(2), 7);
        due("count(5)", x.count(5), 1);
        x.hours(1);
        x.keep();
        x.hours(1);
        due("back() of the one KEPT since", x.back(), 1);
        due("count(2)", x.count(2), 8);
        due("back()", x.back(), 0);
        due("count(2)", x.count(2), 3);
        due("hall(0, 3)", x.hall(0, 3), 3);
        due("back() of nothing", x.back(), NO);
        due("count(2) still", x.count(2), 3);
    }

    static void promise25AllThatIsKept() {
        DUE.says(25, "KEPT are DOORS, FLOODED ones, SMOKE (that in the OPEN, too), the HOUR");
        CaveBreath x = Look.full();
        x.forget();
        x.wipe();
        int[] smoke = new int[9];
        for (int i = 0; i < 8; i++) {
            x.flood(i, i % 2 == 0);
        }
        for (int d = 0; d < 10; d++) {
            x.set(d, d % 3 == 0);
        }
        x.back();
        x.back();
        x.hours(4);
        for (int i = 0; i < 8; i++) {
            x.flood(i, i % 2 == 1);
            smoke[i] = x.hall(i, 3);
        }
        for (int d = 0; d < 10; d++) {
            x.set(d, d % 3 == 1);
        }
        smoke[8] = x.count(3);
        DUE.holds("there is SMOKE in the OPEN", smoke[8] > 0);
        x.keep();
        for (int i = 0; i < 8; i++) {
            x.flood(i, false);
        }
        for (int d = 0; d < 10; d++) {
            x.set(d, true);
        }
        x.hours(50);
        x.smelled(1, 2, true);
        x.write(3, 0);
        DUE.holds("SMOKE in the OPEN has changed", smoke[8] != x.count(3));
        due("back()", x.back(), 0);
        for (int i = 0; i < 8; i++) {
            due("hall(" + i + ", 3)", x.hall(i, 3), smoke[i]);
            due("hall(" + i + ", 4)", x.hall(i, 4), i % 2);
        }
        for (int d = 0; d < 10; d++) {
            due("door(" + d + ", 4)", x.door(d, 4), d % 3 == 1 ? 1 : 0);
        }
        due("count(2)", x.count(2), 11);
        due("count(3)", x.count(3), smoke[8]);
        due("count(4), SMELLED is not KEPT", x.count(4), 1);
        due("count(6), THE TEXT is not KEPT", x.count(6), 3);
    }

    // ---- promise 26: count

    static void promise26What() {
        DUE.says(26, "0 HALLS, 1 DOORS, 2 the HOUR, .. 6 bytes of THE TEXT, 7 the WARD. BAD.");
        for (int wrong : new int[] {-1, 8, 9, 256, LEAST, MOST}) {
            DUE.refused("count(" + wrong + ")", x -> x.count(wrong), BAD);
        }
    }

    static void promise26Least() {
        DUE.says(26, "How many");
        int[] counts = {1, 0, 0, 0, 0, 0, 0, 0};
        for (int what = 0; what < 8; what++) {
            due("count(" + what + ") of a new object", new CaveBreath().count(what), counts[what]);
        }
    }

    static void promise26Most() {
        DUE.says(26, "How many");
        CaveBreath x = Look.full();
        int[] counts = {8, 10, 40, x.count(3), 10, 2, 400, 6};
        for (int what = 0; what < 8; what++) {
            due("count(" + what + ") of a full object", x.count(what), counts[what]);
        }
        CaveBreath last = Due.laid("h1,0,0;".repeat(8) + "s7;");
        due("count(7), the last of eight", last.count(7), 7);
    }

    static void promise26TheHour() {
        DUE.says(26, "2 the HOUR");
        CaveBreath x = new CaveBreath();
        for (int t = 1; t <= 50; t++) {
            x.hours(1);
            due("count(2)", x.count(2), t);
        }
    }
}
