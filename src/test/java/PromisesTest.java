/** Each promise of the document, with answers worked out by hand from its words. */
public final class PromisesTest {
    private static final int BAD = -1, NO = -2, FULL = -3, NONE = -4;
    private static final int LEAST = Integer.MIN_VALUE, MOST = Integer.MAX_VALUE;
    private static final Due DUE = new Due("PromisesTest");

    private static final String CAVE = Look.CAVE;

    public static void main(String[] args) {
        constants();
        newObject();
        write();
        wipe();
        fault();
        faultAtTheEnd();
        faultOfNumbers();
        lay();
        layTakesTheLast();
        layBringsBackWhatIsSoWithout();
        hall();
        door();
        set();
        flood();
        goes();
        air();
        through();
        kindsOfDoors();
        middle();
        leftOverAir();
        deadEnds();
        downwind();
        hours();
        hoursGoByTheirOwnAir();
        hoursOfFloodedHalls();
        hoursOfTheOtherHalfDay();
        clean();
        cleanNeedsAir();
        settings();
        settingsNone();
        first();
        smelled();
        forget();
        burns();
        shaft();
        shaftByFloodedHalls();
        shaftWithTenDoors();
        lamps();
        weather();
        keepAndBack();
        count();
        failedCallsChangeNothing();
        DUE.end();
    }

    private static void due(String call, long got, long want) {
        DUE.is(call, got, want);
    }

    private static void constants() {
        due("BAD", CaveBreath.BAD, BAD);
        due("NO", CaveBreath.NO, NO);
        due("FULL", CaveBreath.FULL, FULL);
        due("NONE", CaveBreath.NONE, NONE);
    }

    private static void newObject() {
        CaveBreath x = new CaveBreath();
        int[] counts = {1, 0, 0, 0, 0, 0, 0, 0};
        for (int what = 0; what < counts.length; what++) {
            due("1 new: count(" + what + ")", x.count(what), counts[what]);
        }
        int[] tells = {10, 0, 0, 0, 0};
        for (int what = 0; what < tells.length; what++) {
            due("1 new: hall(0, " + what + ")", x.hall(0, what), tells[what]);
        }
        due("1 new: goes(0)", x.goes(0), 1);
        due("1 new: goes(12)", x.goes(12), 2);
        due("1 new: fault()", x.fault(), NONE);
        due("1 new: lay()", x.lay(), NO);
    }

    private static void write() {
        CaveBreath x = new CaveBreath();
        due("2 write(0, ..)", x.write(0, 65), BAD);
        due("2 write(9, ..)", x.write(9, 65), BAD);
        due("2 write(-1, ..)", x.write(-1, 65), BAD);
        due("2 write(least, ..)", x.write(LEAST, 65), BAD);
        due("2 write(most, ..)", x.write(MOST, 65), BAD);
        due("2 nothing written", x.count(6), 0);
        // The lowest three bytes of these are "m7;", what is above them is left out.
        due("2 write(3, ..)", x.write(3, 0x68683030_6D373BL), 3);
        due("2 the highest first", x.fault(), NONE);
        due("2 write(2, ..)", x.write(2, 0x6D38), 5);
        due("2 behind the text", x.fault(), 3);
        due("2 write(1, ..)", x.write(1, 0x3B), 6);
        due("2 the text is whole", x.fault(), NONE);
        CaveBreath y = new CaveBreath();
        for (int k = 1; k <= 49; k++) {
            due("2 write(8, ..)", y.write(8, -1L), 8 * k);
        }
        due("2 write(7, ..) up to 399", y.write(7, 0), 399);
        due("2 write(2, ..) beyond 400", y.write(2, 0), FULL);
        due("2 write(9, ..) is BAD ahead of FULL", y.write(9, 0), BAD);
        due("2 still 399", y.count(6), 399);
        due("2 write(1, ..) up to 400", y.write(1, 0), 400);
        due("2 write(1, ..) beyond 400", y.write(1, 0), FULL);
        due("2 still 400", y.count(6), 400);
    }

    private static void wipe() {
        CaveBreath x = Due.laid(CAVE);
        due("3 wipe()", x.wipe(), CAVE.length());
        due("3 wipe() again", x.wipe(), 0);
        due("3 the text is empty", x.count(6), 0);
        due("3 what is laid stays", x.count(0), 3);
        due("3 write behind wipe", x.write(1, 'm'), 1);
    }

    private static void fault() {
        due("4 empty", Due.faultOf(""), NONE);
        due("4 all kinds", Due.faultOf(CAVE + "m0;c99;w0,99;"), NONE);
        due("4 no letter", Due.faultOf(";"), 0);
        due("4 unknown letter", Due.faultOf("m1;x1;"), 3);
        due("4 great letter", Due.faultOf("M1;"), 0);
        due("4 byte above 127", Due.faultOf("m1;\u00e9"), 3);
        due("4 zero byte", Due.faultOf("m1;\0"), 3);
        due("4 space", Due.faultOf("m1; m2;"), 3);
        due("4 letter alone", Due.faultOf("m1;m"), 3);
        due("4 no number", Due.faultOf("m;"), 0);
        due("4 no end", Due.faultOf("m1;m22"), 3);
        due("4 wrong end", Due.faultOf("m1,"), 0);
        due("4 three figures", Due.faultOf("m1;m001;"), 3);
        due("4 sign", Due.faultOf("m-1;"), 0);
        due("4 one or two figures", Due.faultOf("m09;m9;m00;m99;"), NONE);
        due("4 a number too few", Due.faultOf("h1,2;"), 0);
        due("4 a number too many", Due.faultOf("h1,2,3,4;"), 0);
        due("4 an empty number", Due.faultOf("h1,,3;"), 0);
        due("4 , at the end", Due.faultOf("h1,2,3,;"), 0);
        due("4 ; among numbers", Due.faultOf("h1;2,3;"), 0);
        due("4 ;;", Due.faultOf("m1;;"), 3);
        due("4 the first of two", Due.faultOf("m1;c;w;"), 3);
        due("4 w with one number", Due.faultOf("w1;"), 0);
        due("4 w with three numbers", Due.faultOf("w1,2,3;"), 0);
        due("4 d with three numbers", Due.faultOf("h1,0,0;h2,0,0;d0,1,1;"), 14);
        due("4 o with four numbers", Due.faultOf("h1,0,0;o0,1,0,0;"), 7);
    }

    /** What stood behind the end once, or where no byte can stand, is none of THE TEXT. */
    private static void faultAtTheEnd() {
        CaveBreath x = new CaveBreath();
        Due.write(x, "m1;m22;");
        x.wipe();
        Due.write(x, "m1;m2");
        due("4 a wiped figure and ; are gone", x.fault(), 3);
        x.wipe();
        Due.write(x, "m1");
        due("4 a wiped ; is gone", x.fault(), 0);
        String full = "m1;".repeat(133);
        due("4 400 bytes, the last a letter", Due.faultOf(full + "m"), 399);
        due("4 400 bytes, the last a figure", Due.faultOf(full.substring(3) + "1;m1"), 396);
        due("4 400 bytes, the last a ;", Due.faultOf(full.substring(3) + "m12;"), NONE);
    }

    private static void faultOfNumbers() {
        due("4 h to the brim", Due.faultOf("h99,50,99;h0,0,0;"), NONE);
        due("4 h smoke 51", Due.faultOf("h0,51,0;"), 0);
        String two = "h1,0,0;h2,0,0;h1,0,0;";
        due("4 d to the brim", Due.faultOf(two + "d0,1,50,3;d1,0,1,0;"), NONE);
        due("4 d to itself", Due.faultOf(two + "d0,0,1,0;"), 21);
        due("4 d as high", Due.faultOf(two + "d0,2,1,0;"), 21);
        due("4 d first not told", Due.faultOf(two + "d3,1,1,0;"), 21);
        due("4 d other not told", Due.faultOf(two + "d1,3,1,0;"), 21);
        due("4 d to 8", Due.faultOf(two + "d1,8,1,0;"), 21);
        due("4 d from 8", Due.faultOf(two + "d8,1,1,0;"), 21);
        due("4 d told behind", Due.faultOf("h1,0,0;d0,1,1,0;h2,0,0;"), 7);
        due("4 d wide 0", Due.faultOf(two + "d0,1,0,0;"), 21);
        due("4 d wide 51", Due.faultOf(two + "d0,1,51,0;"), 21);
        due("4 d kind 4", Due.faultOf(two + "d0,1,1,4;"), 21);
        due("4 o to the brim", Due.faultOf(two + "o2,50,3;o0,1,0;"), NONE);
        due("4 o not told", Due.faultOf(two + "o3,1,0;"), 21);
        due("4 o of 8", Due.faultOf(two + "o8,1,0;"), 21);
        due("4 o wide 0", Due.faultOf(two + "o0,0,0;"), 21);
        due("4 o wide 51", Due.faultOf(two + "o0,51,0;"), 21);
        due("4 o kind 4", Due.faultOf(two + "o0,1,4;"), 21);
        due("4 s told", Due.faultOf(two + "s2;"), NONE);
        due("4 s not told", Due.faultOf(two + "s3;"), 21);
        due("4 v 30", Due.faultOf("v30;"), NONE);
        due("4 v 31", Due.faultOf("v31;"), 0);
        due("4 eight halls", Due.faultOf("h1,0,0;".repeat(8)), NONE);
        due("4 nine halls", Due.faultOf("h1,0,0;".repeat(9)), 56);
        due("4 ten doors", Due.faultOf(two + "o0,1,0;".repeat(5) + "d0,1,1,0;".repeat(5)), NONE);
        due("4 eleven doors, an o", Due.faultOf(two + "d0,1,1,0;".repeat(10) + "o0,1,0;"), 111);
        due("4 eleven doors, a d", Due.faultOf(two + "o0,1,0;".repeat(10) + "d0,1,1,0;"), 91);
    }

    private static void lay() {
        CaveBreath x = new CaveBreath();
        Due.write(x, "m50;");
        due("5 lay() without a hall", x.lay(), NO);
        Due.write(x, "h20,0,0;h");
        due("5 lay() with a fault", x.lay(), NO);
        due("5 as before", x.hall(0, 0), 10);
        x.wipe();
        Due.write(x, CAVE);
        due("5 lay()", x.lay(), 3);
        due("5 the text stays", x.count(6), CAVE.length());
        x.hours(3);
        x.set(0, false);
        x.flood(2, true);
        x.smelled(0, 0, true);
        x.keep();
        due("5 lay() again", x.lay(), 3);
        due("5 HOUR 0", x.count(2), 0);
        due("5 no SMOKE", x.hall(0, 3) + x.hall(1, 3) + x.hall(2, 3) + x.count(3), 0);
        due("5 nothing FLOODED", x.hall(2, 4), 0);
        due("5 all DOORS open", x.door(0, 4), 1);
        due("5 nothing SMELLED", x.count(4), 0);
        due("5 nothing KEPT", x.count(5), 0);
        due("5 back()", x.back(), NO);
        due("5 the WARD", x.count(7), 1);
    }

    private static void layTakesTheLast() {
        CaveBreath x = Due.laid("h10,0,0;h20,0,0;h30,0,0;m1;m99;c1;c30;w1,2;w30,31;s1;s2;o2,5,0;");
        due("5 the last w and c: still", x.goes(0), 0);
        due("5 the last w and c: down", x.goes(12), 2);
        due("5 the last s", x.count(7), 2);
        x.wipe();
        Due.write(x, "h10,0,0;");
        due("5 lay() of another", x.lay(), 1);
        due("5 w and c as without: up", x.goes(0), 1);
        due("5 w and c as without: down", x.goes(12), 2);
        due("5 the WARD as without", x.count(7), 0);
        due("5 no DOORS", x.count(1), 0);
    }

    private static void layBringsBackWhatIsSoWithout() {
        CaveBreath x = new CaveBreath();
        // Three times, as an object may well have room for more than one cave.
        for (int k = 0; k < 3; k++) {
            x.wipe();
            Due.write(x, "h1,9,0;h2,9,0;h90,0,0;o0,9,0;d0,2,9,0;o2,9,0;m99;c99;w98,97;s2;v30;");
            x.lay();
            due("5 the WARD is told", x.count(7), 2);
            due("5 air goes as told", x.goes(0) * 10 + x.goes(12), 11);
            x.wipe();
            Due.write(x, "h1,0,0;c5;");
            x.lay();
            due("5 5 without: still", x.goes(0), 0);
            due("5 20 without: down", x.goes(12), 2);
            due("5 the WARD without", x.count(7), 0);
            Due.write(x, "c20;");
            x.lay();
            due("5 20 without: still", x.goes(12), 0);
            x.wipe();
            Due.write(x, "h49,1,0;h50,0,0;o0,9,0;d0,1,1,0;o1,9,0;s1;w11,11;");
            x.lay();
            due("5 12 without: up", x.goes(0), 1);
            due("5 MIDDLE 50 without", x.air(0, 1), 9);
            due("5 no warmer without", x.weather(0, 30), 0);
        }
    }

    private static void hall() {
        CaveBreath x = Due.laid("h99,50,98;h0,1,2;");
        due("6 Z", x.hall(0, 0), 99);
        due("6 S", x.hall(0, 1), 50);
        due("6 N", x.hall(0, 2), 98);
        due("6 Z of 1", x.hall(1, 0), 0);
        due("6 S of 1", x.hall(1, 1), 1);
        due("6 N of 1", x.hall(1, 2), 2);
        x.hours(2);
        due("6 SMOKE", x.hall(0, 3), 100);
        due("6 SMOKE of 1", x.hall(1, 3), 2);
        x.flood(1, true);
        due("6 FLOODED", x.hall(1, 4), 1);
        due("6 DRY", x.hall(0, 4), 0);
        for (int wrong : new int[] {-1, 2, 8, LEAST, MOST}) {
            due("6 hall(" + wrong + ", 0)", x.hall(wrong, 0), BAD);
        }
        for (int wrong : new int[] {-1, 5, LEAST, MOST}) {
            due("6 hall(0, " + wrong + ")", x.hall(0, wrong), BAD);
        }
    }

    private static void door() {
        CaveBreath x = Due.laid(CAVE);
        int[][] tells = {{0, NONE, 22, 0, 1}, {0, 1, 3, 0, 1}, {0, 2, 1, 2, 1}, {2, 1, 4, 1, 1}, {1, NONE, 7, 0, 1}};
        for (int d = 0; d < tells.length; d++) {
            for (int what = 0; what < tells[d].length; what++) {
                due("7 door(" + d + ", " + what + ")", x.door(d, what), tells[d][what]);
            }
        }
        x.set(3, false);
        due("7 shut", x.door(3, 4), 0);
        for (int wrong : new int[] {-1, 5, 10, LEAST, MOST}) {
            due("7 door(" + wrong + ", 0)", x.door(wrong, 0), BAD);
            due("7 door(0, ..)", x.door(0, wrong), BAD);
        }
    }

    private static void set() {
        CaveBreath x = Due.laid(CAVE);
        due("8 set shut", x.set(4, false), 1);
        due("8 set shut again", x.set(4, false), 0);
        due("8 is shut", x.door(4, 4), 0);
        due("8 others stay", x.door(3, 4), 1);
        due("8 set open", x.set(4, true), 0);
        due("8 set open again", x.set(4, true), 1);
        due("8 is open", x.door(4, 4), 1);
        for (int wrong : new int[] {-1, 5, 31, 32, 36, LEAST, MOST}) {
            due("8 set(" + wrong + ", ..)", x.set(wrong, false), BAD);
        }
        due("8 all open still", x.door(0, 4) + x.door(1, 4) + x.door(2, 4) + x.door(3, 4) + x.door(4, 4), 5);
    }

    private static void flood() {
        CaveBreath x = Due.laid(CAVE);
        due("9 flood", x.flood(2, true), 0);
        due("9 flood again", x.flood(2, true), 1);
        due("9 is FLOODED", x.hall(2, 4), 1);
        due("9 others DRY", x.hall(1, 4) + x.hall(0, 4), 0);
        due("9 nothing goes there", x.air(0, 2), 0);
        due("9 all goes elsewhere", x.through(0, 1), 22);
        due("9 dry", x.flood(2, false), 1);
        due("9 dry again", x.flood(2, false), 0);
        due("9 air as before", x.air(0, 2), 5);
        x.flood(0, true);
        due("9 nothing comes in by a FLOODED hall", x.air(0, 1), 0);
        for (int wrong : new int[] {-1, 3, 8, 32, LEAST, MOST}) {
            due("9 flood(" + wrong + ", ..)", x.flood(wrong, true), BAD);
        }
    }

    private static void goes() {
        CaveBreath x = Due.laid("h10,0,0;c10;w9,11;");
        int[][] ways = {{0, 1}, {11, 1}, {12, 2}, {23, 2}, {24, 1}, {35, 1}, {36, 2}, {999999, 2}, {999998, 2},
            {999984, 1}};
        for (int[] way : ways) {
            due("10 goes(" + way[0] + ")", x.goes(way[0]), way[1]);
        }
        CaveBreath y = Due.laid("h10,0,0;c10;w10,10;");
        due("10 not", y.goes(0) + y.goes(12), 0);
        for (int wrong : new int[] {-1, 1000000, LEAST, MOST}) {
            due("10 goes(" + wrong + ")", x.goes(wrong), BAD);
            due("11 air(" + wrong + ", 0)", x.air(wrong, 0), BAD);
        }
    }

    private static void air() {
        CaveBreath x = Due.laid(CAVE);
        int[] up = {22, 22, 5};
        int[] down = {7, 7, 0};
        for (int i = 0; i < 3; i++) {
            due("11 air(0, " + i + ")", x.air(0, i), up[i]);
            due("11 air(35, " + i + ")", x.air(35, i), up[i]);
            due("11 air(12, " + i + ")", x.air(12, i), down[i]);
            due("11 air(999999, " + i + ")", x.air(999999, i), down[i]);
        }
        for (int wrong : new int[] {-1, 3, 8, LEAST, MOST}) {
            due("11 air(0, " + wrong + ")", x.air(0, wrong), BAD);
        }
    }

    private static void through() {
        CaveBreath x = Due.laid(CAVE);
        int[] up = {22, 17, 5, 5, 22};
        int[] down = {7, 7, 0, 0, 7};
        for (int d = 0; d < 5; d++) {
            due("12 through(11, " + d + ")", x.through(11, d), up[d]);
            due("12 through(23, " + d + ")", x.through(23, d), down[d]);
        }
        for (int wrong : new int[] {-1, 5, 10, LEAST, MOST}) {
            due("12 through(0, " + wrong + ")", x.through(0, wrong), BAD);
        }
        due("12 through(-1, 0)", x.through(-1, 0), BAD);
        due("12 through(1000000, 0)", x.through(1000000, 0), BAD);
        CaveBreath still = Due.laid(CAVE + "w12,12;");
        for (int d = 0; d < 5; d++) {
            due("12 nothing if air does not go", still.through(0, d), 0);
        }
        due("11 no AIR if air does not go", still.air(0, 1), 0);
    }

    /** One hall with a door in and a wide one out below it, of each kind, open and shut. */
    private static void kindsOfDoors() {
        int[][] lets = {
            // UP open, UP shut, DOWN open, DOWN shut
            {7, 0, 7, 0}, {7, 0, 0, 0}, {7, 1, 7, 1}, {0, 0, 0, 0}};
        for (int kind = 0; kind < 4; kind++) {
            CaveBreath x = Due.laid("h10,0,0;h90,0,0;o0,50,0;o1,50,0;d0,1,7," + kind + ";d1,0,1,0;");
            // What comes in is shared by the door looked at and the plain one, 1 wide.
            for (int k = 0; k < 4; k++) {
                x.set(2, k % 2 == 0);
                int let = lets[kind][k];
                int share = 50 * let / (let + 1);
                int left = 50 - share - 50 / (let + 1);
                due("2 kind " + kind + " case " + k, x.through(k < 2 ? 0 : 12, 2), let > 0 ? share + left : 0);
            }
        }
        CaveBreath leaky = Due.laid("h10,0,0;o0,3,2;o0,4,2;h90,0,0;o1,9,0;d0,1,9,0;");
        leaky.set(0, false);
        leaky.set(1, false);
        due("2 LEAKY 3 shut lets 0", leaky.through(0, 0), 0);
        due("2 LEAKY 4 shut lets 1", leaky.through(0, 1), 1);
    }

    private static void middle() {
        String halls = "h49,0,0;h50,0,0;o0,6,0;o1,8,0;d0,1,1,0;";
        CaveBreath x = Due.laid(halls);
        due("2 below MIDDLE: in, if UP", x.air(0, 0), 6);
        due("2 at MIDDLE: out, if UP", x.through(0, 1), 6);
        due("2 at MIDDLE: in, if DOWN", x.air(12, 1), 8);
        due("2 below MIDDLE: out, if DOWN", x.through(12, 0), 8);
        CaveBreath y = Due.laid(halls + "m51;");
        due("2 both in, if UP: nothing goes", y.air(0, 0) + y.air(0, 1), 0);
        CaveBreath turned = Due.laid("h50,0,0;h49,0,0;o1,6,0;o0,8,0;d0,1,1,0;");
        due("2 the higher hall told first, UP", turned.air(0, 0) * 10 + turned.air(0, 1), 66);
        due("2 the higher hall told first, DOWN", turned.air(12, 0) * 10 + turned.air(12, 1), 88);
        CaveBreath z = Due.laid(halls + "m0;");
        due("2 both in, if DOWN: nothing goes", z.air(12, 0) + z.air(12, 1), 0);
    }

    private static void leftOverAir() {
        // 11 by 2, 2, 3 of 7: 3, 3, 4 and one left, for the lowest DOOR.
        CaveBreath x = Due.laid("h10,0,0;h60,0,0;o0,11,0;d1,0,2,0;d0,1,2,0;d0,1,3,0;o1,1,0;");
        due("2 left over for the lowest", x.through(0, 1), 4);
        due("2 none for the second", x.through(0, 2), 3);
        due("2 none for the third", x.through(0, 3), 4);
        // 5 by 2, 2, 3 of 7: 1, 1, 2 and one left; a shut DOOR gets none of it.
        CaveBreath y = Due.laid("h10,0,0;h60,0,0;o0,5,0;d0,1,9,0;d1,0,2,0;d0,1,2,0;d0,1,3,0;o1,1,0;");
        y.set(1, false);
        due("2 none for a shut one", y.through(0, 1), 0);
        due("2 left over for the lowest that lets", y.through(0, 2), 2);
        due("2 the next", y.through(0, 3), 1);
        due("2 the last", y.through(0, 4), 2);
        // 2 by 1, 1, 1 of 3: none, and two left, one each for the lowest two.
        CaveBreath z = Due.laid("h10,0,0;h60,0,0;o0,2,0;d0,1,1,0;d0,1,1,0;d0,1,1,0;o1,1,0;");
        due("2 one each", z.through(0, 1) * 100 + z.through(0, 2) * 10 + z.through(0, 3), 110);
        due("2 all of it comes out", z.through(0, 4), 2);
    }

    private static void deadEnds() {
        // Hall 2 leads nowhere: nothing goes there, nor in by its own DOOR.
        CaveBreath x = Due.laid("h10,0,0;h60,0,0;h40,0,0;o0,9,0;d0,1,1,0;d0,2,8,0;o1,1,0;o2,5,0;");
        due("2 a dead end has AIR 0", x.air(0, 2), 0);
        due("2 nothing goes to a dead end", x.through(0, 2), 0);
        due("2 nothing comes into a dead end", x.through(0, 4), 0);
        due("2 all goes the other way", x.through(0, 1), 9);
        x.set(3, false);
        due("2 without a way out nothing goes", x.through(0, 0) + x.through(0, 1) + x.air(0, 0), 0);
    }

    private static void downwind() {
        CaveBreath x = Due.laid(CAVE);
        int[] up = {6, 0, 2};
        int[] down = {0, 1, 0};
        for (int i = 0; i < 3; i++) {
            due("13 downwind(0, " + i + ")", x.downwind(0, i), up[i]);
            due("13 downwind(12, " + i + ")", x.downwind(12, i), down[i]);
        }
        for (int wrong : new int[] {-1, 3, 8, LEAST, MOST}) {
            due("13 downwind(0, " + wrong + ")", x.downwind(0, wrong), BAD);
        }
        due("13 downwind(-1, 0)", x.downwind(-1, 0), BAD);
        due("13 downwind(1000000, 0)", x.downwind(1000000, 0), BAD);
        // The third DOOR lets some, but nothing is left for it.
        CaveBreath y = Due.laid("h10,0,0;h60,0,0;h61,0,0;o0,1,0;d0,1,1,0;d0,2,1,0;o1,1,0;o2,1,0;");
        due("13 only where something goes", y.downwind(0, 0), 2);
    }

    private static void hours() {
        CaveBreath x = Due.laid(CAVE);
        for (int wrong : new int[] {0, -1, 100, LEAST, MOST}) {
            due("14 hours(" + wrong + ")", x.hours(wrong), BAD);
        }
        due("14 no HOUR went by", x.count(2), 0);
        // 5 times 17 by 42 is 2 to hall 1; 5 times 5 by 42 is none to hall 2.
        due("14 hours(1)", x.hours(1), 5);
        due("14 hall 0", x.hall(0, 3), 3);
        due("14 hall 1", x.hall(1, 3), 2);
        due("14 the OPEN", x.count(3), 0);
        // 8 times 17 by 42 is 3; all at once, so 2 times 22 by 42, 1, leave hall 1.
        due("14 hours(1) again", x.hours(1), 9);
        due("14 hall 0 then", x.hall(0, 3), 5);
        due("14 hall 1 then", x.hall(1, 3), 4);
        due("14 the OPEN then", x.count(3), 1);
        due("14 the HOUR", x.count(2), 2);
        CaveBreath y = Due.laid(CAVE);
        CaveBreath z = Due.laid(CAVE);
        int last = 0;
        for (int k = 0; k < 99; k++) {
            last = z.hours(1);
        }
        due("14 99 at once or one by one", y.hours(99), last);
        due("14 99 in the OPEN", y.count(3), 99 * 5 - last);
        due("14 99 gone by", y.count(2), 99);
    }

    private static void hoursGoByTheirOwnAir() {
        CaveBreath x = Due.laid(CAVE);
        x.hours(1);
        x.air(12, 0);
        due("14 HOUR 1 is UP, whatever was asked", x.hours(1), 9);
        due("14 hall 0 by UP", x.hall(0, 3), 5);
        x.set(0, false);
        int inOpen = x.count(3);
        x.hours(1);
        due("14 DOORS as they are now", x.count(3), inOpen);
        due("14 nothing left hall 0", x.hall(0, 3), 10);
    }

    private static void hoursOfFloodedHalls() {
        CaveBreath x = Due.laid(CAVE);
        x.flood(0, true);
        due("14 SMOKE stays in a FLOODED hall", x.hours(30), 150);
        due("14 all in hall 0", x.hall(0, 3), 150);
        // HOUR 30 is 6 of its DAY, so UP: 155 times 17 by 42 is 62 to hall 1; 155 times 5 by 42 is 18 to hall 2.
        x.flood(0, false);
        due("14 DRY again, it goes", x.hours(1), 155);
        due("14 hall 0, DRY again", x.hall(0, 3), 75);
        due("14 hall 1 has its part", x.hall(1, 3), 62);
        due("14 hall 2 has its part", x.hall(2, 3), 18);
    }

    private static void hoursOfTheOtherHalfDay() {
        CaveBreath x = Due.laid(CAVE);
        x.hours(12);
        int open = x.count(3);
        int smoke = x.hall(0, 3);
        int above = x.hall(1, 3);
        x.hours(1);
        due("14 HOUR 12 goes the other way", x.count(3), open + (smoke + 5) * 7 / 27);
        due("14 from the higher hall", x.hall(1, 3), above - above * 7 / 27);
    }

    private static void clean() {
        CaveBreath x = Due.laid(CAVE);
        // UP, the WARD is DOWNWIND of hall 0 by DOOR 1, or by 2 and 3, if 0 and 4 are open.
        due("15 clean(31)", x.clean(31), 0);
        due("15 clean(29)", x.clean(29), 0);
        due("15 clean(25)", x.clean(25), 1);
        due("15 clean(15)", x.clean(15), 1);
        due("15 clean(30)", x.clean(30), 1);
        due("15 clean(0)", x.clean(0), 1);
        for (int wrong : new int[] {-1, 32, LEAST, MOST}) {
            due("15 clean(" + wrong + ")", x.clean(wrong), BAD);
        }
        due("15 no DOOR was set", x.door(4, 4), 1);
        x.flood(2, true);
        due("15 FLOODED ones as they are", x.clean(29), 1);
        CaveBreath own = Due.laid("h10,5,0;h60,0,0;o0,9,0;d0,1,1,0;o1,9,0;s0;w5,5;");
        due("15 the WARD's own SMOKE is none", own.clean(7), 1);
        CaveBreath little = Due.laid("h10,1,0;h60,0,0;o0,9,0;d0,1,1,0;o1,9,0;s1;w5,5;");
        due("15 SMOKE 1 is above 0", little.clean(7), 0);
        CaveBreath down = Due.laid("h10,0,0;h60,5,0;o0,9,0;d0,1,1,0;o1,9,0;s0;");
        due("15 the second half of the DAY, too", down.clean(7), 0);
    }

    private static void cleanNeedsAir() {
        String halls = "h10,0,9;h60,0,9;o0,9,0;d0,1,1,0;o1,";
        due("15 just enough AIR", Due.laid(halls + "9,0;").clean(7), 1);
        due("15 too little AIR when DOWN", Due.laid(halls + "8,0;").clean(7), 0);
        due("15 DOWN never comes", Due.laid(halls + "8,0;w5,5;").clean(7), 1);
        due("15 whenever air goes: it does not", Due.laid(halls + "8,0;w5,12;").clean(7), 1);
        due("15 air never goes", Due.laid(halls + "8,0;w12,12;").clean(0), 1);
        // Hall 2 lies beside: FLOODED, it takes no AIR from the others, but has none of what it needs itself.
        CaveBreath x = Due.laid("h10,0,9;h60,0,9;h30,0,1;o0,9,0;d0,1,5,0;d0,2,4,0;d2,1,4,0;o1,9,0;");
        due("15 all have their AIR", x.clean(31), 1);
        x.flood(2, true);
        due("15 the others have theirs", x.air(0, 0) * 10 + x.air(12, 1), 99);
        due("15 a FLOODED hall needs AIR, too", x.clean(31), 0);
    }

    private static void settings() {
        CaveBreath x = Due.laid(CAVE);
        // Of 32 five are not CLEAN: 0 and 4 open, and 1, or 2 and 3.
        due("16 how many", x.settings(0), 27);
        due("16 the nearest, the lowest", x.settings(1), 15);
        x.set(1, false);
        // Now one change does: 0, 2, 3 or 4 shut; the lowest is without 4.
        due("16 the nearest of another", x.settings(1), 13);
        x.set(4, false);
        due("16 no change at all", x.settings(1), 13);
        x.set(4, true);
        x.set(3, false);
        due("16 CLEAN as it is", x.settings(1), 21);
        due("16 how many, whatever is set", x.settings(0), 27);
        for (int wrong : new int[] {-1, 2, LEAST, MOST}) {
            due("16 settings(" + wrong + ")", x.settings(wrong), BAD);
        }
        CaveBreath none = new CaveBreath();
        due("16 without DOORS", none.settings(0), 1);
        due("16 without DOORS, the nearest", none.settings(1), 0);
    }

    private static void settingsNone() {
        CaveBreath x = Due.laid("h10,0,99;o0,9,0;");
        due("16 none", x.settings(0), 0);
        due("16 NONE", x.settings(1), NONE);
        due("16 BAD", x.settings(2), BAD);
    }

    private static void first() {
        CaveBreath x = Due.laid(CAVE);
        due("17 no change gives more", x.first(2, 0, 0), 5);
        due("17 how much without", x.first(2, 0, 1), 22);
        x.set(1, false);
        due("17 a DOOR to open", x.first(2, 0, 0), 1);
        due("17 how much then", x.first(2, 0, 1), 22);
        due("17 DOWN", x.first(2, 12, 0), 1);
        due("17 how much DOWN", x.first(2, 12, 1), 7);
        due("17 hall 2 is not FLOODED by it", x.hall(2, 4), 0);
        due("17 DOOR 1 is not set by it", x.door(1, 4), 0);
        due("17 the WARD FLOODED", x.first(1, 0, 0), 5);
        due("17 the WARD FLOODED, how much", x.first(1, 0, 1), 0);
        x.set(1, true);
        x.set(0, false);
        due("17 the first DOOR of all", x.first(2, 0, 0), 0);
        due("17 the first DOOR of all, how much", x.first(2, 0, 1), 22);
        x.set(0, true);
        x.flood(0, true);
        due("17 FLOODED besides", x.first(2, 0, 1), 0);
        // The WARD, hall 1, has 3 of 10 (hall 2 has 4 and 3); 5 by a shut DOOR 1 or 2. LEAKY, DOOR 5 changes nothing.
        String leaky = "h10,0,0;h60,0,0;h61,0,0;h5,0,0;o0,10,0;d0,2,5,0;d0,2,5,0;d0,1,5,0;o1,9,0;o2,9,2;s1;";
        CaveBreath y = Due.laid(leaky);
        due("17 without a change", y.air(0, 1), 3);
        due("17 the lowest of two to shut", y.first(3, 0, 0), 1);
        due("17 the most", y.first(3, 0, 1), 5);
        // PLAIN and shut, DOOR 5 makes hall 2 a dead end: all 10 go to the WARD.
        CaveBreath plain = Due.laid(leaky.replace("o2,9,2;", "o2,9,0;"));
        due("17 a way out to shut", plain.first(3, 0, 0), 5);
        due("17 all goes to the WARD", plain.first(3, 0, 1), 10);
        int[][] wrong = {{-1, 0, 0}, {4, 0, 0}, {0, -1, 0}, {0, 1000000, 0}, {0, 0, -1}, {0, 0, 2}, {LEAST, 0, 0},
            {MOST, 0, 0}, {0, LEAST, 0}, {0, MOST, 0}, {0, 0, LEAST}, {0, 0, MOST}};
        for (int[] w : wrong) {
            due("17 first(" + w[0] + ", " + w[1] + ", " + w[2] + ")", y.first(w[0], w[1], w[2]), BAD);
        }
    }

    private static void smelled() {
        CaveBreath x = Due.laid(CAVE);
        int[][] wrong = {{-1, 0}, {24, 0}, {0, -1}, {0, 3}, {LEAST, 0}, {MOST, 0}, {0, LEAST}, {0, MOST}};
        for (int[] w : wrong) {
            due("18 smelled(" + w[0] + ", " + w[1] + ", ..)", x.smelled(w[0], w[1], true), BAD);
        }
        for (int k = 1; k <= 10; k++) {
            due("18 smelled", x.smelled(k == 1 ? 0 : 23, 2, k % 2 == 0), k);
        }
        due("18 smelled, the eleventh", x.smelled(0, 0, true), FULL);
        due("18 BAD ahead of FULL", x.smelled(24, 0, true), BAD);
        due("18 ten of them", x.count(4), 10);
    }

    private static void forget() {
        CaveBreath x = Due.laid(CAVE);
        due("19 forget() of none", x.forget(), 0);
        x.smelled(0, 0, true);
        x.smelled(0, 0, false);
        due("20 burns() by what cannot be", x.burns(), 0);
        due("19 forget()", x.forget(), 2);
        due("19 forgotten", x.count(4), 0);
        due("20 burns() then", x.burns(), 7);
        due("18 smelled then", x.smelled(0, 0, true), 1);
    }

    private static void burns() {
        CaveBreath x = Due.laid(CAVE);
        due("20 burns() by nothing", x.burns(), 7);
        x.smelled(0, 1, true);
        due("20 UP, hall 1 by all", x.burns(), 7);
        x.smelled(11, 0, false);
        due("20 UP, not hall 0", x.burns(), 6);
        x.smelled(12, 0, true);
        due("20 DOWN, hall 0 by hall 1", x.burns(), 2);
        x.smelled(23, 2, true);
        due("20 DOWN, hall 2 by itself alone", x.burns(), 0);
        x.forget();
        x.smelled(0, 2, true);
        due("20 UP, hall 2 by 0 and itself", x.burns(), 5);
        x.set(2, false);
        due("20 by the DOORS as they are now", x.burns(), 4);
        x.forget();
        x.smelled(0, 1, false);
        due("20 UP, not hall 1: no way from hall 2 now", x.burns(), 4);
    }

    private static void shaft() {
        CaveBreath x = Due.laid(CAVE);
        // The WARD, hall 1, has 22 UP, 7 DOWN; by a shaft of its own 22 and 17.
        due("21 the HALL", x.shaft(0), 1);
        due("21 how much", x.shaft(1), 17);
        due("21 no DOOR more for good", x.count(1), 5);
        due("21 air as before", x.air(12, 1), 7);
        x.set(0, false);
        due("21 without DOOR 0: hall 0, UP 10 and DOWN 7", x.shaft(0), 0);
        due("21 how much so", x.shaft(1), 7);
        for (int wrong : new int[] {-1, 2, LEAST, MOST}) {
            due("21 shaft(" + wrong + ")", x.shaft(wrong), BAD);
        }
        CaveBreath still = Due.laid(CAVE + "w5,12;");
        due("21 none if air does not go: the lowest", still.shaft(0), 0);
        due("21 none if air does not go: how much", still.shaft(1), 0);
        CaveBreath out = Due.laid("h10,0,0;h60,0,0;o0,21,0;d0,1,1,0;s1;w5,5;");
        due("21 a way out", out.shaft(0), 1);
        due("21 a way out, how much", out.shaft(1), 21);
        CaveBreath kinds = Due.laid("h10,0,0;h60,0,0;o0,8,2;d0,1,5,1;d0,1,5,3;o1,9,0;s1;w5,5;m61;");
        kinds.set(0, false);
        // All halls are below MIDDLE: no way out UP, so that a shaft does not help.
        due("21 MIDDLE as told", kinds.shaft(1), 0);
        CaveBreath leaky = Due.laid("h10,0,0;h60,0,0;o0,8,2;d0,1,5,1;d0,1,5,3;o1,9,0;s1;w5,5;");
        leaky.set(0, false);
        due("21 10 and what is LEAKY", leaky.shaft(1), 12);
        leaky.set(1, false);
        due("21 a BRICKED one lets nothing", leaky.shaft(1), 0);
        out.flood(0, true);
        due("21 FLOODED ones as they are", out.shaft(1), 0);
    }

    /** The WARD has 20 from below; of what comes from above, 3 by itself and 7 by hall 2, FLOODED keeps it 3. */
    private static void shaftByFloodedHalls() {
        String cave = "h10,0,0;h60,0,0;h90,0,0;o0,20,0;d0,1,5,0;o1,3,0;d1,2,4,0;o2,7,0;s1;";
        for (String days : new String[] {"w5,20;", "w20,5;"}) {
            CaveBreath x = Due.laid(cave + days);
            due("21 " + days + " DRY, the lowest that has most", x.shaft(0), 1);
            due("21 " + days + " DRY, 20 both ways", x.shaft(1), 20);
            x.flood(2, true);
            due("21 " + days + " FLOODED, the WARD itself", x.shaft(0), 1);
            due("21 " + days + " FLOODED, 3 and 10", x.shaft(1), 13);
        }
    }

    private static void shaftWithTenDoors() {
        String doors = "o0,1,0;".repeat(9);
        CaveBreath nine = Due.laid("h10,0,0;" + doors);
        due("21 nine DOORS", nine.shaft(0), 0);
        CaveBreath ten = Due.laid("h10,0,0;" + doors + "o0,1,0;");
        due("21 ten DOORS", ten.shaft(0), NO);
        due("21 ten DOORS, how much", ten.shaft(1), NO);
        due("21 BAD ahead of NO", ten.shaft(2), BAD);
    }

    private static void lamps() {
        CaveBreath x = Due.laid(CAVE);
        due("22 lamps(0)", x.lamps(0), 2);
        due("22 lamps(1)", x.lamps(1), 2);
        due("22 lamps(2)", x.lamps(2), 0);
        due("22 UP alone", Due.laid(CAVE + "w5,5;").lamps(2), 1);
        due("22 none if air does not go", Due.laid(CAVE + "w5,12;").lamps(0), 0);
        for (int wrong : new int[] {-1, 3, 8, LEAST, MOST}) {
            due("22 lamps(" + wrong + ")", x.lamps(wrong), BAD);
        }
    }

    private static void weather() {
        // UP the WARD is DOWNWIND of hall 0: on days that are 0 or 1 warmer.
        String halls = "h10,5,0;h60,0,0;o0,9,0;d0,1,1,0;o1,9,0;s1;w10,14;";
        CaveBreath x = Due.laid(halls + "v9;");
        // x is 1, then 6152: 1 and 7 warmer.
        due("23 weather(0, 1)", x.weather(0, 1), 0);
        due("23 weather(0, 2)", x.weather(0, 2), 1);
        for (int z : new int[] {0, 1, 77, 9999}) {
            int good = 0;
            for (int day = 0; day < 30; day++) {
                long draw = 7919L * z + 6151L * day + 1;
                good += draw * draw % 65521 % 10 >= 2 ? 1 : 0;
                due("23 weather(" + z + ", " + (day + 1) + ")", x.weather(z, day + 1), good);
            }
        }
        // DOWN hall 0, the WARD here, is DOWNWIND of hall 1; UP it is not.
        CaveBreath down = Due.laid("h10,0,0;h60,5,0;o0,9,0;d0,1,1,0;o1,9,0;s0;w5,9;v9;");
        int cold = 0;
        for (int day = 0; day < 30; day++) {
            long draw = 7919L * 5 + 6151L * day + 1;
            cold += 9 + draw * draw % 65521 % 10 <= 12 ? 1 : 0;
            due("23 DOWN, weather(5, " + (day + 1) + ")", down.weather(5, day + 1), cold);
        }
        DUE.holds("some days are cold, some warm", cold > 0 && cold < 30);
        due("23 no warmer without v", Due.laid(halls).weather(9, 30), 0);
        CaveBreath shut = Due.laid(halls + "v9;");
        shut.set(1, false);
        due("23 by the DOORS as they are", shut.weather(0, 30), 30);
        due("23 v changes nothing else", x.goes(0), 1);
        int[][] wrong = {{-1, 1}, {10000, 1}, {0, 0}, {0, 31}, {0, -1}, {LEAST, 1}, {MOST, 1}, {0, LEAST}, {0, MOST}};
        for (int[] w : wrong) {
            due("23 weather(" + w[0] + ", " + w[1] + ")", x.weather(w[0], w[1]), BAD);
        }
    }

    private static void keepAndBack() {
        CaveBreath x = Due.laid(CAVE);
        due("25 back() of nothing", x.back(), NO);
        x.hours(2);
        x.set(3, false);
        x.flood(2, true);
        due("24 keep()", x.keep(), 1);
        x.hours(20);
        x.set(3, true);
        x.set(0, false);
        x.flood(2, false);
        x.smelled(3, 1, true);
        int inOpen = x.count(3);
        due("24 keep() again", x.keep(), 2);
        due("24 keep() beyond", x.keep(), FULL);
        x.hours(9);
        x.wipe();
        due("25 back()", x.back(), 1);
        due("25 the HOUR", x.count(2), 22);
        due("25 in the OPEN", x.count(3), inOpen);
        due("25 DOOR 0", x.door(0, 4), 0);
        due("25 hall 2", x.hall(2, 4), 0);
        due("25 back() again", x.back(), 0);
        due("25 the HOUR then", x.count(2), 2);
        due("25 SMOKE of 0", x.hall(0, 3), 5);
        due("25 SMOKE of 1", x.hall(1, 3), 4);
        due("25 in the OPEN then", x.count(3), 1);
        due("25 DOOR 0 then", x.door(0, 4), 1);
        due("25 DOOR 3 then", x.door(3, 4), 0);
        due("25 hall 2 then", x.hall(2, 4), 1);
        due("25 SMELLED stays", x.count(4), 1);
        due("25 THE TEXT stays", x.count(6), 0);
        due("25 back() beyond", x.back(), NO);
        due("24 keep() once more", x.keep(), 1);
    }

    private static void count() {
        CaveBreath x = Due.laid(CAVE);
        x.hours(2);
        x.smelled(0, 0, true);
        x.keep();
        x.keep();
        int[] counts = {3, 5, 2, 1, 1, 2, CAVE.length(), 1};
        for (int what = 0; what < counts.length; what++) {
            due("26 count(" + what + ")", x.count(what), counts[what]);
        }
        for (int wrong : new int[] {-1, 8, LEAST, MOST}) {
            due("26 count(" + wrong + ")", x.count(wrong), BAD);
        }
    }

    private static void failedCallsChangeNothing() {
        CaveBreath x = Due.laid(CAVE);
        Due.write(x, "x");
        due("4 fault() of a longer text", x.fault(), CAVE.length());
        due("5 lay() of it", x.lay(), NO);
        due("5 as laid before", x.air(0, 2), 5);
        x.wipe();
        Due.write(x, "h1,0,0;h2,0,0;o1,1,1;m5;");
        due("4 fault() of another text", x.fault(), NONE);
        due("4 as laid before", x.air(0, 2) * 10 + x.count(0), 53);
        x.wipe();
        Due.write(x, CAVE + "x");
        x.shaft(0);
        due("21 shaft() leaves things as they are", x.through(0, 1), 17);
        due("4 fault() leaves things as they are", x.fault() + x.count(1), CAVE.length() + 5);
        due("5 the text is unchanged", x.wipe(), CAVE.length() + 1);
    }
}
