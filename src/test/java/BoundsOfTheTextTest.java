/** Promises 1 to 5: each sentence on THE TEXT and what is LAID that names a boundary case, by itself. */
public final class BoundsOfTheTextTest {
    private static final int BAD = -1, NO = -2, FULL = -3, NONE = -4;
    private static final int LEAST = Integer.MIN_VALUE, MOST = Integer.MAX_VALUE;
    private static final Due DUE = new Due("BoundsOfTheTextTest");

    // 21 bytes: halls 0 and 1 of unlike height, hall 2 as high as hall 0.
    private static final String HALLS = "h1,0,0;h2,0,0;h1,0,0;";
    // By MIDDLE 50, and by no other, air goes through: 6 UP, 8 DOWN.
    private static final String AT_50 = "h49,0,0;h50,0,0;o0,6,0;o1,8,0;d0,1,1,0;";

    public static void main(String[] args) {
        DUE.runPromises(BoundsOfTheTextTest.class, 1, 5);
        DUE.end();
    }

    private static void due(String call, long got, long want) {
        DUE.is(call, got, want);
    }

    private static void faultOf(String text, int want) {
        due("fault() of " + text, Due.faultOf(text), want);
    }

    /** The numbers from least to most may stand between begin and end, those beside them not. */
    private static void range(String ahead, String begin, int least, int most, String end) {
        faultOf(ahead + begin + least + end, NONE);
        faultOf(ahead + begin + most + end, NONE);
        faultOf(ahead + begin + (least - 1) + end, ahead.length());
        faultOf(ahead + begin + (most + 1) + end, ahead.length());
        faultOf(ahead + begin + end, ahead.length());
    }

    private static int throughUp(String text) {
        CaveBreath x = afterOthers(text);
        return x.air(0, 0);
    }

    /** LAID when other caves were LAID and read ahead, in which all is unlike what is so without. */
    private static CaveBreath afterOthers(String text) {
        CaveBreath x = new CaveBreath();
        Due.write(x, "h1,9,99;".repeat(8) + "m99;c99;w98,97;s7;v30;");
        x.lay();
        x.lay();
        x.fault();
        x.wipe();
        Due.write(x, text);
        due("lay() of " + text, x.lay() > 0 ? 1 : 0, 1);
        return x;
    }

    // ---- promise 1: a new object

    static void promise01EmptyText() {
        DUE.says(1, "THE TEXT is empty");
        due("count(6)", new CaveBreath().count(6), 0);
        due("wipe()", new CaveBreath().wipe(), 0);
        due("fault()", new CaveBreath().fault(), NONE);
        due("write(1, ..), the first byte", new CaveBreath().write(1, 'm'), 1);
        due("lay(), as there is no HALL", new CaveBreath().lay(), NO);
    }

    static void promise01FirstHall() {
        DUE.says(1, "at first h10,0,0;");
        CaveBreath x = new CaveBreath();
        int[] tells = {10, 0, 0, 0, 0};
        for (int what = 0; what < tells.length; what++) {
            due("hall(0, " + what + ")", x.hall(0, what), tells[what]);
        }
        due("count(0)", x.count(0), 1);
        due("hall(1, 0)", x.hall(1, 0), BAD);
        due("count(1), no DOORS", x.count(1), 0);
        due("door(0, 0)", x.door(0, 0), BAD);
    }

    static void promise01NothingYet() {
        DUE.says(1, "As told");
        CaveBreath x = new CaveBreath();
        due("count(2), the HOUR", x.count(2), 0);
        due("count(3), SMOKE in the OPEN", x.count(3), 0);
        due("count(4), SMELLED", x.count(4), 0);
        due("count(5), KEPT", x.count(5), 0);
        due("count(7), the WARD", x.count(7), 0);
        due("goes(0), 5 by 12", x.goes(0), 1);
        due("goes(12), 20 by 12", x.goes(12), 2);
        due("back()", x.back(), NO);
        due("forget()", x.forget(), 0);
    }

    static void promise01Apart() {
        DUE.says(1, "A new object");
        CaveBreath other = Look.full();
        CaveBreath x = new CaveBreath();
        String before = Look.of(x);
        other.hours(3);
        other.wipe();
        DUE.alike("another object is used", Look.of(x), before);
        due("count(0) of the other", other.count(0), 8);
    }

    // ---- promise 2: write

    static void promise02OneToEight() {
        DUE.says(2, "The lowest n bytes (1 to 8) of v");
        for (int n = 1; n <= 8; n++) {
            due("write(" + n + ", ..)", new CaveBreath().write(n, -1L), n);
        }
        for (int wrong : new int[] {0, -1, 9, 16, 256 + 1, LEAST, MOST, LEAST + 1}) {
            DUE.refused("write(" + wrong + ", ..)", x -> x.write(wrong, 0x6D313BL), BAD);
        }
    }

    static void promise02LowestBytes() {
        DUE.says(2, "The lowest n bytes (1 to 8) of v, the highest of these first");
        String[] items = {"m7;", "m77;", "w1,2;", "w11,2;", "h3,2,1;", "h31,2,3;"};
        for (String item : items) {
            int n = item.length();
            // All bits above the lowest n bytes are set, so v is below 0 but for n = 8.
            long v = -1L;
            for (int k = 0; k < n; k++) {
                v = v << 8 | item.charAt(k);
            }
            CaveBreath x = new CaveBreath();
            due("write(" + n + ", ..)", x.write(n, v), n);
            due("fault() of " + item, x.fault(), NONE);
        }
        CaveBreath eight = new CaveBreath();
        eight.write(8, 0x6833312C_322C333BL);
        eight.lay();
        due("h31,2,3; at once", eight.hall(0, 0) * 100 + eight.hall(0, 1) * 10 + eight.hall(0, 2), 3123);
        CaveBreath parts = new CaveBreath();
        parts.write(1, 0xFFFFFFFF_FFFFFF6DL);
        due("write(2, ..) behind it", parts.write(2, 0x6D6D6D6D_6D6D373BL), 3);
        due("fault() of m7; in parts", parts.fault(), NONE);
    }

    static void promise02AnyByte() {
        DUE.says(2, "The lowest n bytes (1 to 8) of v");
        for (int b : new int[] {0, 127, 128, 255, 'm' + 128, 'm' - 32}) {
            CaveBreath x = new CaveBreath();
            due("write(1, " + b + ")", x.write(1, b), 1);
            x.write(2, 0x313B);
            due("fault() of a byte " + b + " and 1;", x.fault(), 0);
        }
        CaveBreath y = new CaveBreath();
        y.write(3, 0x6DB13B);
        due("fault(), as 177 is no figure", y.fault(), 0);
        CaveBreath z = new CaveBreath();
        z.write(3, 0x6D31BB);
        due("fault(), as 187 is no ;", z.fault(), 0);
    }

    static void promise02FourHundred() {
        DUE.says(2, "bytes (400 at most)");
        CaveBreath x = new CaveBreath();
        for (int k = 1; k <= 50; k++) {
            due("write(8, ..)", x.write(8, k), 8 * k);
        }
        due("write(1, ..) beyond 400", x.write(1, 'm'), FULL);
        due("count(6)", x.count(6), 400);
    }

    static void promise02Full() {
        DUE.says(2, "FULL");
        for (int n = 1; n <= 8; n++) {
            int bytes = n;
            DUE.refusedByFull("write(" + n + ", ..) at 400", x -> x.write(bytes, -1L), FULL);
            // Just too long by one: none of it is written, not even what there is room for.
            CaveBreath x = new CaveBreath();
            Due.write(x, "m1;".repeat(133).substring(0, 401 - n - (401 - n) % 3));
            for (int k = x.count(6); k < 401 - n; k++) {
                x.write(1, ';');
            }
            due("write(" + n + ", ..) at " + (401 - n), x.write(n, 0), FULL);
            due("count(6) then", x.count(6), 401 - n);
            due("write(" + (n - 1) + ", ..) fits still", n == 1 ? 400 : x.write(n - 1, 0), 400);
        }
    }

    static void promise02BadAheadOfFull() {
        DUE.says(2, "BAD .. FULL. Of several the first in this order");
        for (int wrong : new int[] {0, 9, -1, LEAST, MOST}) {
            DUE.refusedByFull("write(" + wrong + ", ..) at 400", x -> x.write(wrong, 0), BAD);
        }
    }

    // ---- promise 3: wipe

    static void promise03HowLongItWas() {
        DUE.says(3, "THE TEXT is empty: how long it was");
        CaveBreath x = new CaveBreath();
        due("wipe() of nothing", x.wipe(), 0);
        x.write(1, 'x');
        due("wipe() of a byte", x.wipe(), 1);
        due("wipe() again", x.wipe(), 0);
        CaveBreath y = Look.full();
        due("wipe() of 400", y.wipe(), 400);
        due("count(6)", y.count(6), 0);
        due("fault()", y.fault(), NONE);
        due("lay(), as there is no HALL", y.lay(), NO);
        due("write(8, ..), there is room again", y.write(8, 0), 8);
    }

    static void promise03WhatWasIsGone() {
        DUE.says(3, "THE TEXT is empty");
        CaveBreath x = new CaveBreath();
        Due.write(x, "h12,3,4;");
        x.wipe();
        Due.write(x, "h12,3,4");
        due("fault(), a wiped ; is gone", x.fault(), 0);
        x.wipe();
        Due.write(x, "h");
        due("fault(), wiped numbers are gone", x.fault(), 0);
    }

    static void promise03LaidStays() {
        DUE.says(3, "THE TEXT is empty");
        CaveBreath x = Look.inUse();
        CaveBreath y = Look.inUse();
        x.wipe();
        Due.write(x, Look.CAVE);
        DUE.alike("THE TEXT is wiped and written again", Look.throughAll(x), Look.throughAll(y));
    }

    // ---- promise 4: fault

    static void promise04None() {
        DUE.says(4, "FAULT. NONE.");
        faultOf("", NONE);
        faultOf("h0,0,0;", NONE);
        faultOf(Look.fullText(), NONE);
        faultOf("m50;", NONE);
    }

    static void promise04FirstByteOfFirstItem() {
        DUE.says(4, "the place (from 0 on) of the first byte of the first ITEM that is not so");
        faultOf("x", 0);
        faultOf("m1;x", 3);
        faultOf("m1;h1,2,x;", 3);
        faultOf("m1;h1,51,0;s0;", 3);
        faultOf("m1;v31;m1;v31;", 3);
        faultOf("s0;h1,0,0;d0,0,1,0;", 0);
        faultOf("m1;".repeat(133) + "m", 399);
        faultOf("m1;".repeat(131) + "h1,2,34", 393);
        faultOf("x".repeat(400), 0);
    }

    static void promise04UnfinishedAtEachByte() {
        DUE.says(4, "; (behind the last one, too)");
        CaveBreath x = new CaveBreath();
        int begin = 0;
        for (int k = 0; k < Look.CAVE.length(); k++) {
            x.write(1, Look.CAVE.charAt(k));
            boolean ends = Look.CAVE.charAt(k) == ';';
            due("fault() of the first " + (k + 1) + " bytes", x.fault(), ends ? NONE : begin);
            begin = ends ? k + 1 : begin;
        }
    }

    static void promise04ALetter() {
        DUE.says(4, "each a letter");
        String letters = "hdomcwsv";
        for (int b = 0; b < 256; b++) {
            if (letters.indexOf(b) < 0) {
                for (String numbers : new String[] {"0;", "0,1;", "0,1,0;", "0,1,1,0;"}) {
                    faultOf(HALLS + (char) b + numbers, 21);
                }
            }
        }
        faultOf("mm1;", 0);
        faultOf("1;", 0);
        faultOf(";", 0);
        faultOf("m1;;", 3);
    }

    static void promise04OneOrTwoFigures() {
        DUE.says(4, "numbers (one or two figures)");
        faultOf("m0;m9;m00;m09;m10;m99;", NONE);
        faultOf("m;", 0);
        faultOf("m100;", 0);
        faultOf("m000;", 0);
        faultOf("m001;", 0);
        faultOf("h,0,0;", 0);
        faultOf("h1,,0;", 0);
        faultOf("h1,0,;", 0);
        faultOf("h100,0,0;", 0);
        faultOf("h1,000,0;", 0);
        faultOf("h1,0,000;", 0);
        CaveBreath x = Due.laid("h07,08,09;");
        due("h07,08,09; is LAID", x.hall(0, 0) * 100 + x.hall(0, 1) * 10 + x.hall(0, 2), 789);
        for (int b = 0; b < 256; b++) {
            if (b < '0' || b > '9') {
                faultOf("m" + (char) b + ";", 0);
                faultOf("m1" + (char) b + ";", b == ';' ? 3 : 0);
            }
        }
    }

    static void promise04Parted() {
        DUE.says(4, "parted by , and ; (behind the last one, too)");
        faultOf("w1,2;", NONE);
        faultOf("w1;2;", 0);
        faultOf("w12;", 0);
        faultOf("w1 2;", 0);
        faultOf("w1.2;", 0);
        faultOf("w1,2,", 0);
        faultOf("w1,2,;", 0);
        faultOf("w,1,2;", 0);
        faultOf("w1,2", 0);
        faultOf("w1,2m1;", 0);
        faultOf("w1,2:", 0);
    }

    static void promise04HowManyNumbers() {
        DUE.says(4, "hZ,S,N .. dI,J,W,K .. oI,W,K .. mM .. cC .. wA,B .. sI .. vV");
        String[] items = {"h1,1,1", "d0,1,1,1", "o1,1,1", "m1", "c1", "w1,1", "s1", "v1"};
        for (String item : items) {
            faultOf(HALLS + item + ";", NONE);
            faultOf(HALLS + item + ",1;", 21);
            int less = item.lastIndexOf(',');
            faultOf(HALLS + item.substring(0, less < 0 ? 1 : less) + ";", 21);
        }
    }

    static void promise04HallNumbers() {
        DUE.says(4, "a HALL Z high (0 to 99), makes S of SMOKE an HOUR (0 to 50), needs N of AIR (0 to 99)");
        range("m1;", "h", 0, 99, ",0,0;");
        range("m1;", "h0,", 0, 50, ",0;");
        range("m1;", "h0,0,", 0, 99, ";");
        faultOf("h0,99,0;", 0);
        faultOf("h99,50,99;", NONE);
    }

    static void promise04EightHalls() {
        DUE.says(4, "8 at most, 0, 1, ..");
        faultOf("h1,0,0;".repeat(8), NONE);
        faultOf("h1,0,0;".repeat(9), 56);
        faultOf("h1,0,0;".repeat(8) + "m1;s7;" + "h1,0,0;", 62);
    }

    static void promise04DoorBetweenHalls() {
        DUE.says(4, "a DOOR between HALLS I and J (told ahead, unlike, not as high)");
        range(HALLS, "d", 0, 2, ",1,1,0;");
        faultOf(HALLS + "d1,0,1,0;", NONE);
        faultOf(HALLS + "d1,2,1,0;", NONE);
        faultOf(HALLS + "d1,3,1,0;", 21);
        faultOf(HALLS + "d1,8,1,0;", 21);
        faultOf(HALLS + "d8,1,1,0;", 21);
        faultOf(HALLS + "d1,99,1,0;", 21);
        faultOf(HALLS + "d99,1,1,0;", 21);
        faultOf(HALLS + "d1,1,1,0;", 21);
        faultOf(HALLS + "d0,2,1,0;", 21);
        faultOf(HALLS + "d2,0,1,0;", 21);
        faultOf("h1,0,0;d0,1,1,0;h2,0,0;", 7);
        faultOf("d0,1,1,0;h1,0,0;h2,0,0;", 0);
        faultOf("h0,0,0;h99,0,0;d0,1,1,0;", NONE);
    }

    static void promise04DoorWide() {
        DUE.says(4, "W wide (1 to 50)");
        range(HALLS, "d0,1,", 1, 50, ",0;");
        range(HALLS, "o0,", 1, 50, ",0;");
        faultOf(HALLS + "d0,1,99,0;", 21);
        faultOf(HALLS + "o0,99,0;", 21);
        faultOf(HALLS + "o0,00,0;", 21);
    }

    static void promise04DoorKind() {
        DUE.says(4, "of KIND K (0 PLAIN, 1 FLAP, 2 LEAKY, 3 BRICKED)");
        range(HALLS, "d0,1,1,", 0, 3, ";");
        range(HALLS, "o0,1,", 0, 3, ";");
        faultOf(HALLS + "d0,1,1,99;", 21);
        faultOf(HALLS + "o0,1,99;", 21);
    }

    static void promise04DoorIntoTheOpen() {
        DUE.says(4, "a DOOR of HALL I (told ahead) into the OPEN");
        range(HALLS, "o", 0, 2, ",1,0;");
        faultOf(HALLS + "o8,1,0;", 21);
        faultOf(HALLS + "o99,1,0;", 21);
        faultOf("o0,1,0;h1,0,0;", 0);
        faultOf("h1,0,0;o1,1,0;h2,0,0;", 7);
    }

    static void promise04TenDoors() {
        DUE.says(4, "10 DOORS at most, 0, 1, ..");
        String d = "d0,1,1,0;";
        String o = "o0,1,0;";
        faultOf(HALLS + d.repeat(10), NONE);
        faultOf(HALLS + o.repeat(10), NONE);
        faultOf(HALLS + d.repeat(5) + o.repeat(5), NONE);
        faultOf(HALLS + d.repeat(11), 21 + 90);
        faultOf(HALLS + o.repeat(11), 21 + 70);
        faultOf(HALLS + d.repeat(10) + o, 21 + 90);
        faultOf(HALLS + o.repeat(10) + d, 21 + 70);
        faultOf(HALLS + d.repeat(5) + o.repeat(6), 21 + 45 + 35);
        faultOf(HALLS + d.repeat(10) + "m1;" + "o0,1,3;", 21 + 93);
    }

    static void promise04NumbersBeside() {
        DUE.says(4, "MIDDLE is M (0 to 99 ..) .. C warm .. (0 to 99 ..) .. A warm .. B .. (0 to 99 each ..)");
        range("v1;", "m", 0, 99, ";");
        range("v1;", "c", 0, 99, ";");
        range("v1;", "w", 0, 99, ",1;");
        range("v1;", "w1,", 0, 99, ";");
    }

    static void promise04Ward() {
        DUE.says(4, "the WARD is HALL I (told ahead");
        range(HALLS, "s", 0, 2, ";");
        faultOf("s0;", 0);
        faultOf("s0;h1,0,0;", 0);
        faultOf("h1,0,0;s1;h2,0,0;", 7);
        faultOf(HALLS + "s8;", 21);
        faultOf(HALLS + "s99;", 21);
    }

    static void promise04WeatherWarmer() {
        DUE.says(4, "the weather is V warmer at most (0 to 30");
        range("m1;", "v", 0, 30, ";");
        faultOf("v99;", 0);
    }

    static void promise04ToldInThisText() {
        DUE.says(4, "told ahead");
        CaveBreath x = Look.full();
        x.wipe();
        Due.write(x, "s0;");
        due("fault(), HALLS that are LAID are not told here", x.fault(), 0);
        x.wipe();
        Due.write(x, "h1,0,0;".repeat(8) + "o7,1,0;".repeat(10));
        due("fault(), what is LAID takes no room here", x.fault(), NONE);
    }

    static void promise04ChangesNothing() {
        DUE.says(4, "FAULT.");
        CaveBreath x = Look.inUse();
        CaveBreath y = Look.inUse();
        for (String text : new String[] {"h9,9,9;h8,8,8;o0,3,0;m0;c0;w9,9;s1;v9;", "h1,1,1;x"}) {
            x.wipe();
            Due.write(x, text);
            x.fault();
        }
        x.wipe();
        Due.write(x, Look.CAVE);
        DUE.alike("fault() is asked of other texts", Look.throughAll(x), Look.throughAll(y));
    }

    // ---- promise 5: lay

    static void promise05HowManyHalls() {
        DUE.says(5, "LAID: how many HALLS");
        for (int halls = 1; halls <= 8; halls++) {
            CaveBreath x = new CaveBreath();
            Due.write(x, "h1,0,0;".repeat(halls));
            due("lay() of " + halls, x.lay(), halls);
            due("count(0)", x.count(0), halls);
        }
    }

    static void promise05NoHall() {
        DUE.says(5, "of a HALL at least (NO else");
        due("lay() of nothing", new CaveBreath().lay(), NO);
        for (String text : new String[] {"", "m1;", "m1;c1;w1,1;v1;"}) {
            DUE.alike("lay() finds no HALL", used(text), unlaid(text));
        }
    }

    static void promise05Fault() {
        DUE.says(5, "a TEXT without FAULT .. (NO else");
        for (String text : new String[] {"x", "h1,2,3", "h1,2,3;x", "h9,9,9;o0,9,0;s0;v31;", "h1,0,0;".repeat(9)}) {
            DUE.alike("lay() finds a FAULT", used(text), unlaid(text));
        }
    }

    /** An object in use whose lay() of this text is refused. */
    private static String used(String text) {
        CaveBreath x = Look.inUse();
        x.wipe();
        Due.write(x, text);
        due("lay() of " + text, x.lay(), NO);
        return Look.throughAll(x);
    }

    private static String unlaid(String text) {
        CaveBreath x = Look.inUse();
        x.wipe();
        Due.write(x, text);
        return Look.throughAll(x);
    }

    static void promise05AllAnew() {
        DUE.says(5, "HOUR 0, no SMOKE, nothing FLOODED, SMELLED, KEPT; THE TEXT stays");
        CaveBreath x = Look.full();
        due("count(3) ahead is above 0", Math.min(1, x.count(3)), 1);
        due("lay()", x.lay(), 8);
        due("count(2)", x.count(2), 0);
        due("count(3)", x.count(3), 0);
        for (int i = 0; i < 8; i++) {
            due("SMOKE of " + i, x.hall(i, 3), 0);
            due("FLOODED " + i, x.hall(i, 4), 0);
        }
        due("count(4)", x.count(4), 0);
        due("burns()", x.burns(), 255);
        due("count(5)", x.count(5), 0);
        due("back()", x.back(), NO);
        due("count(6)", x.count(6), 400);
        due("lay() again, by THE TEXT that stayed", x.lay(), 8);
    }

    static void promise05AllDoorsOpen() {
        DUE.says(5, "All DOORS are open then");
        CaveBreath x = Look.full();
        for (int d = 0; d < 10; d++) {
            x.set(d, false);
        }
        x.lay();
        for (int d = 0; d < 10; d++) {
            due("door(" + d + ", 4)", x.door(d, 4), 1);
        }
        CaveBreath y = Due.laid("h1,0,0;o0,1,3;o0,1,2;o0,1,1;");
        due("of all KINDS", y.door(0, 4) * 100 + y.door(1, 4) * 10 + y.door(2, 4), 111);
    }

    static void promise05FewerThanBefore() {
        DUE.says(5, "LAID");
        CaveBreath x = Look.full();
        x.wipe();
        Due.write(x, "h10,0,0;");
        due("lay() of a HALL alone", x.lay(), 1);
        due("hall(1, 0)", x.hall(1, 0), BAD);
        due("count(1)", x.count(1), 0);
        due("door(0, 0)", x.door(0, 0), BAD);
        due("clean(1)", x.clean(1), BAD);
        due("count(7)", x.count(7), 0);
        x.wipe();
        DUE.alike("lay() of h10,0,0;", Look.of(x), Look.of(new CaveBreath()));
        CaveBreath y = afterOthers("h10,0,0;");
        due("clean(0), by its own N alone", y.clean(0), 1);
        y.wipe();
        DUE.alike("lay() of h10,0,0; past others", Look.of(y), Look.of(new CaveBreath()));
    }

    static void promise05Middle() {
        DUE.says(5, "MIDDLE is M (0 to 99; 50 without; of several such the last one counts)");
        due("AIR without", throughUp(AT_50), 6);
        due("AIR by m49;", throughUp(AT_50 + "m49;"), 0);
        due("AIR by m51;", throughUp(AT_50 + "m51;"), 0);
        due("AIR by m49;m51;m50;", throughUp(AT_50 + "m49;m51;m50;"), 6);
        due("AIR by m50;m49;", throughUp(AT_50 + "m50;m49;"), 0);
        due("AIR by m50; ahead of all", throughUp("m49;m50;" + AT_50), 6);
        String high = "h98,0,0;h99,0,0;o0,6,0;o1,8,0;d0,1,1,0;m";
        due("AIR by m99;", throughUp(high + "99;"), 6);
        due("AIR by m98;", throughUp(high + "98;"), 0);
        String low = "h0,0,0;h1,0,0;o0,6,0;o1,8,0;d0,1,1,0;m";
        due("AIR by m1;", throughUp(low + "1;"), 6);
        due("AIR by m0;", throughUp(low + "0;"), 0);
    }

    static void promise05Warm() {
        DUE.says(5, "it is C warm in all HALLS (0 to 99; 12 without; of several such the last one counts)");
        due("goes by 11", afterOthers("h1,0,0;w11,11;").goes(0), 1);
        due("goes by 12", afterOthers("h1,0,0;w12,12;").goes(0), 0);
        due("goes by 13", afterOthers("h1,0,0;w13,13;").goes(0), 2);
        due("goes by c0; and 0", afterOthers("h1,0,0;w0,1;c0;").goes(0), 0);
        due("goes by c0; and 1", afterOthers("h1,0,0;w0,1;c0;").goes(12), 2);
        due("goes by c99; and 99", afterOthers("h1,0,0;w99,98;c99;").goes(0), 0);
        due("goes by c99; and 98", afterOthers("h1,0,0;w99,98;c99;").goes(12), 1);
        due("goes by c3;c5;", afterOthers("h1,0,0;c3;c5;").goes(0), 0);
        due("goes by c5;c3;", afterOthers("c5;c3;h1,0,0;").goes(0), 2);
    }

    static void promise05Outside() {
        DUE.says(5, "(0 to 99 each; 5, 20 without; of several such the last one counts)");
        int[][] ways = {{4, 2, 2}, {5, 0, 2}, {6, 1, 2}, {19, 1, 2}, {20, 1, 0}, {21, 1, 1}};
        for (int[] way : ways) {
            CaveBreath x = afterOthers("h1,0,0;c" + way[0] + ";");
            due("goes(0) without w by c" + way[0], x.goes(0), way[1]);
            due("goes(12) without w by c" + way[0], x.goes(12), way[2]);
        }
        CaveBreath last = afterOthers("w99,0;w12,11;h1,0,0;");
        due("goes by w99,0;w12,11;", last.goes(0) * 10 + last.goes(12), 1);
        CaveBreath edges = afterOthers("h1,0,0;c50;w0,99;");
        due("goes by w0,99;", edges.goes(0) * 10 + edges.goes(12), 12);
        CaveBreath turned = afterOthers("h1,0,0;c50;w99,0;");
        due("goes by w99,0;", turned.goes(0) * 10 + turned.goes(12), 21);
    }

    static void promise05Ward() {
        DUE.says(5, "the WARD is HALL I (told ahead; 0 without; of several such the last one counts)");
        String halls = "h1,0,0;".repeat(8);
        due("count(7) without", afterOthers(halls).count(7), 0);
        due("count(7) by s7;", afterOthers(halls + "s7;").count(7), 7);
        due("count(7) by s7;s3;", afterOthers(halls + "s7;s3;").count(7), 3);
        due("count(7) by s3;s0;", afterOthers(halls + "s3;s0;").count(7), 0);
        due("count(7) by s0; among halls", afterOthers("h1,0,0;s0;h2,0,0;s1;h3,0,0;").count(7), 1);
    }

    static void promise05WeatherWarmer() {
        DUE.says(5, "the weather is V warmer at most (0 to 30; 0 without; of several such the last one counts)");
        // UP the WARD is DOWNWIND of SMOKE; by 30 warmer it is not. On DAY 0 by z = 0 it is 1 warmer, if V is not 0.
        String foul = "h10,5,0;h60,0,0;o0,9,0;d0,1,1,0;o1,9,0;s1;w11,11;";
        due("weather(0, 1) without", afterOthers(foul).weather(0, 1), 0);
        due("weather(0, 1) by v0;", afterOthers(foul + "v0;").weather(0, 1), 0);
        due("weather(0, 1) by v1;", afterOthers(foul + "v1;").weather(0, 1), 1);
        due("weather(0, 1) by v30;", afterOthers(foul + "v30;").weather(0, 1), 1);
        due("weather(0, 1) by v30;v0;", afterOthers(foul + "v30;v0;").weather(0, 1), 0);
        due("weather(0, 1) by v0;v30;", afterOthers("v0;v30;" + foul).weather(0, 1), 1);
    }

    static void promise05TheEdgesAreLaid() {
        DUE.says(5, "LAID");
        CaveBreath x = afterOthers("h0,0,0;h99,50,99;d0,1,1,0;d1,0,50,3;o0,1,1;o1,50,2;");
        int[][] halls = {{0, 0, 0}, {99, 50, 99}};
        int[][] doors = {{0, 1, 1, 0}, {1, 0, 50, 3}, {0, NONE, 1, 1}, {1, NONE, 50, 2}};
        for (int i = 0; i < halls.length; i++) {
            for (int what = 0; what < 3; what++) {
                due("hall(" + i + ", " + what + ")", x.hall(i, what), halls[i][what]);
            }
        }
        for (int d = 0; d < doors.length; d++) {
            for (int what = 0; what < 4; what++) {
                due("door(" + d + ", " + what + ")", x.door(d, what), doors[d][what]);
            }
        }
    }
}
