import java.util.ArrayDeque;
import java.util.Deque;
import java.util.Random;

/** Runs of drawn calls (the same every time), each answer held against the naive model's. */
public final class ModelTest {
    private static final Due DUE = new Due("ModelTest");

    private final Random random;
    private final int run;
    private final CaveBreath x = new CaveBreath();
    private final NaiveCaves y = new NaiveCaves();
    private final Deque<String> lately = new ArrayDeque<>();
    private String text = "";
    private int calls;

    private ModelTest(int run) {
        this.run = run;
        random = new Random(run);
    }

    public static void main(String[] args) {
        int runs = args.length > 0 ? Integer.parseInt(args[0]) : 400;
        for (int run = 0; run < runs && !DUE.anyWrong(); run++) {
            new ModelTest(run).go();
        }
        DUE.end();
    }

    private void go() {
        // What is answered past 512 calls is free, and another cave takes some fifty to tell.
        while (calls < 512 - 60 && !DUE.anyWrong()) {
            if (random.nextInt(80) == 0 || calls == 0) {
                layAnother();
            } else {
                call();
            }
        }
    }

    private void due(String call, long got, long want) {
        calls++;
        lately.addLast(call);
        if (lately.size() > 12) {
            lately.removeFirst();
        }
        DUE.is(got == want ? call : "run " + run + ", text " + text + ", last calls " + lately + ": " + call, got, want);
    }

    /** Mostly a number from 0 to below n, sometimes one at or beyond the edge. */
    private int upTo(int n) {
        switch (random.nextInt(40)) {
            case 0: return -1;
            case 1: return n;
            case 2: return n - 1;
            case 3: return random.nextInt();
            default: return n > 0 ? random.nextInt(n) : 0;
        }
    }

    private void layAnother() {
        due("wipe()", x.wipe(), y.wipe());
        String told = random.nextInt(5) < 2 ? cave() : airyCave();
        text = random.nextInt(6) == 0 ? spoiled(told) : told;
        for (int at = 0; at < text.length(); at += 8) {
            int n = Math.min(8, text.length() - at);
            long v = random.nextLong();
            for (int k = 0; k < n; k++) {
                v = v << 8 | text.charAt(at + k) & 255;
            }
            due("write(" + n + ", " + v + ")", x.write(n, v), y.write(n, v));
        }
        due("fault()", x.fault(), y.fault());
        due("lay()", x.lay(), y.lay());
    }

    private String spoiled(String good) {
        StringBuilder s = new StringBuilder(good);
        String signs = "hdomcwsv0123456789,;,;x \u00ff";
        for (int k = random.nextInt(3); k >= 0; k--) {
            int at = random.nextInt(s.length());
            char sign = signs.charAt(random.nextInt(signs.length()));
            switch (random.nextInt(3)) {
                case 0: s.setCharAt(at, sign); break;
                case 1: s.insert(at, sign); break;
                default: s.deleteCharAt(at); break;
            }
        }
        return s.toString();
    }

    private String cave() {
        StringBuilder s = new StringBuilder();
        int halls = 1 + random.nextInt(8);
        int[] z = new int[halls];
        boolean wideApart = random.nextBoolean();
        boolean quiet = random.nextBoolean();
        for (int i = 0; i < halls; i++) {
            z[i] = wideApart ? random.nextInt(100) : 45 + random.nextInt(10);
            int smoke = random.nextInt(3) == 0 ? 1 + random.nextInt(50) : 0;
            int needs = quiet ? 0 : random.nextInt(4) == 0 ? random.nextInt(6) : 0;
            s.append("h").append(z[i]).append(",").append(smoke).append(",").append(needs).append(";");
        }
        int doors = random.nextInt(5) == 0 ? 10 : random.nextInt(11);
        int widest = random.nextBoolean() ? 50 : 4;
        for (int d = 0; d < doors; d++) {
            int kind = random.nextInt(3) == 0 ? random.nextInt(4) : 0;
            int one = random.nextInt(halls);
            int other = random.nextInt(halls);
            if (z[one] != z[other] && random.nextInt(3) > 0) {
                s.append("d").append(one).append(",").append(other);
            } else {
                s.append("o").append(one);
            }
            s.append(",").append(1 + random.nextInt(widest)).append(",").append(kind).append(";");
        }
        s.append(weatherAndWard(halls));
        return s.toString();
    }

    /** One in which air goes from the lowest hall to the highest one, and back, more often than not. */
    private String airyCave() {
        StringBuilder s = new StringBuilder();
        int halls = 2 + random.nextInt(5);
        int[] z = new int[halls];
        for (int i = 0; i < halls; i++) {
            z[i] = i == 0 ? random.nextInt(50) : i == 1 ? 50 + random.nextInt(50) : random.nextInt(100);
            int smoke = random.nextInt(4) == 0 ? 1 + random.nextInt(50) : 0;
            int needs = random.nextInt(7) == 0 ? 1 + random.nextInt(6) : 0;
            s.append("h").append(z[i]).append(",").append(smoke).append(",").append(needs).append(";");
        }
        s.append("o0,").append(1 + random.nextInt(50)).append(",0;o1,").append(1 + random.nextInt(50)).append(",0;");
        for (int d = random.nextInt(8); d >= 0; d--) {
            int one = random.nextInt(halls);
            int other = random.nextInt(halls);
            s.append(z[one] == z[other] ? "o" + one : "d" + one + "," + other);
            s.append(",").append(1 + random.nextInt(9)).append(",").append(Math.max(0, random.nextInt(6) - 3)).append(";");
        }
        return s.append(weatherAndWard(halls)).toString();
    }

    private String weatherAndWard(int halls) {
        StringBuilder s = new StringBuilder();
        if (random.nextInt(4) == 0) {
            s.append("m").append(45 + random.nextInt(10)).append(";");
        }
        if (random.nextInt(3) == 0) {
            s.append("c").append(10 + random.nextInt(10)).append(";");
        }
        if (random.nextInt(3) == 0) {
            int near = random.nextBoolean() ? 3 : 20;
            int early = 12 - near / 2 + random.nextInt(near);
            int late = 12 - near / 2 + random.nextInt(near);
            s.append("w").append(early).append(",").append(late).append(";");
        }
        if (random.nextInt(4) > 0) {
            s.append("s").append(random.nextInt(halls)).append(";");
        }
        if (random.nextInt(3) > 0) {
            s.append("v").append(random.nextInt(31)).append(";");
        }
        return s.toString();
    }

    private int hour() {
        return random.nextInt(4) == 0 ? upTo(1000000) : upTo(48);
    }

    private void call() {
        if (random.nextInt(5) < 3) {
            callCaves(random.nextInt(9));
        } else {
            callWardens(random.nextInt(15));
        }
    }

    private void callCaves(int which) {
        int i = upTo(y.count(0));
        int d = upTo(y.count(1));
        int t = hour();
        int what = upTo(5);
        boolean is = random.nextBoolean();
        switch (which) {
            case 0: due("hall(" + i + ", " + what + ")", x.hall(i, what), y.hall(i, what)); break;
            case 1: due("door(" + d + ", " + what + ")", x.door(d, what), y.door(d, what)); break;
            case 2: due("set(" + d + ", " + is + ")", x.set(d, is), y.set(d, is)); break;
            case 3:
                is &= random.nextBoolean();
                due("flood(" + i + ", " + is + ")", x.flood(i, is), y.flood(i, is));
                break;
            case 4: due("goes(" + t + ")", x.goes(t), y.goes(t)); break;
            case 5: due("air(" + t + ", " + i + ")", x.air(t, i), y.air(t, i)); break;
            case 6: due("through(" + t + ", " + d + ")", x.through(t, d), y.through(t, d)); break;
            case 7: due("downwind(" + t + ", " + i + ")", x.downwind(t, i), y.downwind(t, i)); break;
            default:
                int n = random.nextInt(4) == 0 ? upTo(100) : upTo(10);
                due("hours(" + n + ")", x.hours(n), y.hours(n));
                break;
        }
    }

    private void callWardens(int which) {
        int i = upTo(y.count(0));
        int t = hour();
        int what = upTo(2);
        boolean did = random.nextInt(3) == 0;
        switch (which) {
            case 0:
            case 1:
                int bits = upTo(1 << y.count(1));
                due("clean(" + bits + ")", x.clean(bits), y.clean(bits));
                break;
            case 2:
                // The naive model takes its time here, so this is called seldom where there are many DOORS.
                if (random.nextInt(1 << y.count(1)) < 16) {
                    due("settings(" + what + ")", x.settings(what), y.settings(what));
                }
                break;
            case 3: due("first(" + i + ", " + t + ", " + what + ")", x.first(i, t, what), y.first(i, t, what)); break;
            case 4:
                for (int many = 1 + random.nextInt(4); many > 0; many--) {
                    int h = upTo(24);
                    due("smelled(" + h + ", " + i + ", " + did + ")", x.smelled(h, i, did), y.smelled(h, i, did));
                }
                break;
            case 5:
                if (random.nextInt(3) == 0) {
                    due("forget()", x.forget(), y.forget());
                }
                break;
            case 6:
            case 7: due("burns()", x.burns(), y.burns()); break;
            case 8: due("shaft(" + what + ")", x.shaft(what), y.shaft(what)); break;
            case 9: due("lamps(" + i + ")", x.lamps(i), y.lamps(i)); break;
            case 10:
                int z = upTo(10000);
                int n = upTo(31);
                due("weather(" + z + ", " + n + ")", x.weather(z, n), y.weather(z, n));
                break;
            case 11: due("keep()", x.keep(), y.keep()); break;
            case 12:
                due("back()", x.back(), y.back());
                due("count(3)", x.count(3), y.count(3));
                break;
            case 13:
                int w = upTo(8);
                due("count(" + w + ")", x.count(w), y.count(w));
                break;
            default: writeOrRead(); break;
        }
    }

    private void writeOrRead() {
        if (random.nextInt(3) > 0) {
            int n = upTo(9);
            long v = random.nextLong();
            due("write(" + n + ", " + v + ")", x.write(n, v), y.write(n, v));
        }
        due("fault()", x.fault(), y.fault());
        if (random.nextInt(3) == 0) {
            due("lay()", x.lay(), y.lay());
        }
    }
}
