import java.util.ArrayList;
import java.util.Arrays;
import java.util.List;
import java.util.regex.Matcher;
import java.util.regex.Pattern;

/**
 * The document once more, as literally and as slowly as it can be written: every HOUR by itself,
 * ways walked by recursion, nothing worked out ahead. ModelTest holds the class against it.
 */
final class NaiveCaves {
    private static final int BAD = -1, NO = -2, FULL = -3, NONE = -4;
    private static final Pattern ITEM = Pattern.compile("([a-z])([0-9]{1,2}(?:,[0-9]{1,2})*);");

    /** A door; to < 0 is the OPEN. */
    private record Door(int one, int other, int wide, int kind) { }

    private record Hall(int z, int s, int n) { }

    private record Nose(int hour, int hall, boolean did) { }

    private static final class Cave {
        List<Hall> halls = new ArrayList<>();
        List<Door> doors = new ArrayList<>();
        int middle = 50, c = 12, a = 5, b = 20, ward = 0, v = 0;
    }

    private record Kept(boolean[] open, boolean[] flooded, int[] smoke, int inOpen, int hour) { }

    private String text = "";
    private Cave cave = new Cave();
    private boolean[] open = {};
    private boolean[] flooded = {false};
    private int[] smoke = {0};
    private int inOpen;
    private int hour;
    private final List<Nose> noses = new ArrayList<>();
    private final List<Kept> kept = new ArrayList<>();

    NaiveCaves() {
        cave.halls.add(new Hall(10, 0, 0));
    }

    int write(int n, long v) {
        if (n < 1 || n > 8) {
            return BAD;
        }
        if (text.length() + n > 400) {
            return FULL;
        }
        StringBuilder more = new StringBuilder();
        for (int k = 0; k < n; k++) {
            more.insert(0, (char) (v & 255));
            v >>= 8;
        }
        text += more;
        return text.length();
    }

    int wipe() {
        int was = text.length();
        text = "";
        return was;
    }

    /** Reads THE TEXT into this cave, and answers where the first item begins that is not so. */
    private int read(Cave into) {
        Matcher m = ITEM.matcher(text);
        int at = 0;
        while (at < text.length()) {
            m.region(at, text.length());
            if (!m.lookingAt() || !item(into, m.group(1), m.group(2).split(","))) {
                return at;
            }
            at = m.end();
        }
        return NONE;
    }

    private static boolean item(Cave cave, String letter, String[] numbers) {
        int[] n = Arrays.stream(numbers).mapToInt(Integer::parseInt).toArray();
        String wanted = "h3d4o3m1c1w2s1v1";
        int at = wanted.indexOf(letter);
        if (at < 0 || n.length != wanted.charAt(at + 1) - '0') {
            return false;
        }
        int told = cave.halls.size();
        if (letter.equals("h")) {
            return told < 8 && n[1] <= 50 && cave.halls.add(new Hall(n[0], n[1], n[2]));
        }
        if (letter.equals("d")) {
            return n[0] < told && n[1] < told && n[0] != n[1] && cave.halls.get(n[0]).z != cave.halls.get(n[1]).z
                && n[2] >= 1 && n[2] <= 50 && n[3] <= 3 && cave.doors.size() < 10
                && cave.doors.add(new Door(n[0], n[1], n[2], n[3]));
        }
        if (letter.equals("o")) {
            return n[0] < told && n[1] >= 1 && n[1] <= 50 && n[2] <= 3 && cave.doors.size() < 10
                && cave.doors.add(new Door(n[0], -1, n[1], n[2]));
        }
        if (letter.equals("m")) {
            cave.middle = n[0];
        } else if (letter.equals("c")) {
            cave.c = n[0];
        } else if (letter.equals("w")) {
            cave.a = n[0];
            cave.b = n[1];
        } else if (letter.equals("s")) {
            if (n[0] >= told) {
                return false;
            }
            cave.ward = n[0];
        } else {
            if (n[0] > 30) {
                return false;
            }
            cave.v = n[0];
        }
        return true;
    }

    int fault() {
        return read(new Cave());
    }

    int lay() {
        Cave told = new Cave();
        if (read(told) != NONE || told.halls.isEmpty()) {
            return NO;
        }
        cave = told;
        open = new boolean[cave.doors.size()];
        Arrays.fill(open, true);
        flooded = new boolean[cave.halls.size()];
        smoke = new int[cave.halls.size()];
        inOpen = 0;
        hour = 0;
        noses.clear();
        kept.clear();
        return cave.halls.size();
    }

    private boolean noHall(int i) {
        return i < 0 || i >= cave.halls.size();
    }

    private boolean noDoor(int d) {
        return d < 0 || d >= cave.doors.size();
    }

    int hall(int i, int what) {
        if (noHall(i) || what < 0 || what > 4) {
            return BAD;
        }
        Hall h = cave.halls.get(i);
        return new int[] {h.z, h.s, h.n, smoke[i], flooded[i] ? 1 : 0}[what];
    }

    int door(int d, int what) {
        if (noDoor(d) || what < 0 || what > 4) {
            return BAD;
        }
        Door x = cave.doors.get(d);
        return new int[] {x.one, x.other < 0 ? NONE : x.other, x.wide, x.kind, open[d] ? 1 : 0}[what];
    }

    int set(int d, boolean to) {
        if (noDoor(d)) {
            return BAD;
        }
        int was = open[d] ? 1 : 0;
        open[d] = to;
        return was;
    }

    int flood(int i, boolean is) {
        if (noHall(i)) {
            return BAD;
        }
        int was = flooded[i] ? 1 : 0;
        flooded[i] = is;
        return was;
    }

    int goes(int t) {
        return t < 0 || t > 999999 ? BAD : new Air(cave, open, flooded, t, 0).goes;
    }

    int air(int t, int i) {
        return t < 0 || t > 999999 || noHall(i) ? BAD : new Air(cave, open, flooded, t, 0).airOf(i);
    }

    int through(int t, int d) {
        return t < 0 || t > 999999 || noDoor(d) ? BAD : new Air(cave, open, flooded, t, 0).through(d);
    }

    int downwind(int t, int i) {
        if (t < 0 || t > 999999 || noHall(i)) {
            return BAD;
        }
        Air air = new Air(cave, open, flooded, t, 0);
        int bits = 0;
        for (int j = 0; j < cave.halls.size(); j++) {
            bits |= j != i && air.isWay(i, j) ? 1 << j : 0;
        }
        return bits;
    }

    int hours(int n) {
        if (n < 1 || n > 99) {
            return BAD;
        }
        for (int k = 0; k < n; k++) {
            pass();
        }
        return Arrays.stream(smoke).sum();
    }

    private void pass() {
        Air air = new Air(cave, open, flooded, hour, 0);
        int[] then = new int[smoke.length];
        for (int i = 0; i < smoke.length; i++) {
            smoke[i] += cave.halls.get(i).s;
            then[i] = smoke[i];
        }
        for (int d = 0; d < open.length; d++) {
            int from = air.from(d);
            if (from < 0) {
                continue;
            }
            int gone = (int) ((long) smoke[from] * air.through(d) / (air.airOf(from) + 20));
            then[from] -= gone;
            if (air.to(d) < 0) {
                inOpen += gone;
            } else {
                then[air.to(d)] += gone;
            }
        }
        smoke = then;
        hour++;
    }

    private static boolean[] bits(int set, int n) {
        boolean[] row = new boolean[n];
        for (int k = 0; k < n; k++) {
            row[k] = (set >> k & 1) == 1;
        }
        return row;
    }

    private static boolean isWardFoul(Cave cave, Air air) {
        for (int i = 0; i < cave.halls.size(); i++) {
            if (cave.halls.get(i).s > 0 && i != cave.ward && air.isWay(i, cave.ward)) {
                return true;
            }
        }
        return false;
    }

    int clean(int set) {
        if (set < 0 || set >= 1 << open.length) {
            return BAD;
        }
        for (int t = 0; t < 24; t++) {
            Air air = new Air(cave, bits(set, open.length), flooded, t, 0);
            if (isWardFoul(cave, air)) {
                return 0;
            }
            for (int i = 0; i < cave.halls.size() && air.goes != 0; i++) {
                if (air.airOf(i) < cave.halls.get(i).n) {
                    return 0;
                }
            }
        }
        return 1;
    }

    int settings(int what) {
        if (what != 0 && what != 1) {
            return BAD;
        }
        int many = 0;
        int nearest = NONE;
        int fewest = 99;
        for (int set = 0; set < 1 << open.length; set++) {
            if (clean(set) == 1) {
                many++;
                int others = 0;
                for (int d = 0; d < open.length; d++) {
                    others += open[d] != bits(set, open.length)[d] ? 1 : 0;
                }
                if (others < fewest) {
                    fewest = others;
                    nearest = set;
                }
            }
        }
        return what == 0 ? many : nearest;
    }

    int first(int i, int t, int what) {
        if (noHall(i) || t < 0 || t > 999999 || what < 0 || what > 1) {
            return BAD;
        }
        boolean[] wet = flooded.clone();
        wet[i] = true;
        int most = new Air(cave, open, wet, t, 0).airOf(cave.ward);
        int best = open.length;
        for (int d = 0; d < open.length; d++) {
            boolean[] changed = open.clone();
            changed[d] = !changed[d];
            int got = new Air(cave, changed, wet, t, 0).airOf(cave.ward);
            if (got > most) {
                most = got;
                best = d;
            }
        }
        return what == 0 ? best : most;
    }

    int smelled(int h, int i, boolean did) {
        if (h < 0 || h > 23 || noHall(i)) {
            return BAD;
        }
        if (noses.size() == 10) {
            return FULL;
        }
        noses.add(new Nose(h, i, did));
        return noses.size();
    }

    int forget() {
        int were = noses.size();
        noses.clear();
        return were;
    }

    int burns() {
        int bits = 0;
        for (int i = 0; i < cave.halls.size(); i++) {
            boolean all = true;
            for (Nose nose : noses) {
                Air air = new Air(cave, open, flooded, nose.hour, 0);
                boolean there = nose.hall == i || air.isWay(i, nose.hall);
                all &= there == nose.did;
            }
            bits |= all ? 1 << i : 0;
        }
        return bits;
    }

    private static int least(Cave cave, boolean[] open, boolean[] flooded, int i) {
        int least = Integer.MAX_VALUE;
        for (int t = 0; t < 24; t++) {
            least = Math.min(least, new Air(cave, open, flooded, t, 0).airOf(i));
        }
        return least;
    }

    int shaft(int what) {
        if (what < 0 || what > 1) {
            return BAD;
        }
        if (open.length == 10) {
            return NO;
        }
        int best = -1;
        int most = -1;
        for (int i = 0; i < cave.halls.size(); i++) {
            cave.doors.add(new Door(i, -1, 10, 0));
            boolean[] more = Arrays.copyOf(open, open.length + 1);
            more[open.length] = true;
            int got = least(cave, more, flooded, cave.ward);
            cave.doors.remove(open.length);
            if (got > most) {
                most = got;
                best = i;
            }
        }
        return what == 0 ? best : most;
    }

    int lamps(int i) {
        return noHall(i) ? BAD : least(cave, open, flooded, i) / 3;
    }

    int weather(int z, int n) {
        if (z < 0 || z > 9999 || n < 1 || n > 30) {
            return BAD;
        }
        int good = 0;
        for (int d = 0; d < n; d++) {
            long x = 7919L * z + 6151L * d + 1;
            int warmer = (int) ((x * x) % 65521) % (cave.v + 1);
            boolean foul = false;
            for (int t = 24 * d; t < 24 * d + 24; t++) {
                foul |= isWardFoul(cave, new Air(cave, open, flooded, t, warmer));
            }
            good += foul ? 0 : 1;
        }
        return good;
    }

    int keep() {
        if (kept.size() == 2) {
            return FULL;
        }
        kept.add(new Kept(open.clone(), flooded.clone(), smoke.clone(), inOpen, hour));
        return kept.size();
    }

    int back() {
        if (kept.isEmpty()) {
            return NO;
        }
        Kept last = kept.remove(kept.size() - 1);
        open = last.open;
        flooded = last.flooded;
        smoke = last.smoke;
        inOpen = last.inOpen;
        hour = last.hour;
        return kept.size();
    }

    int count(int what) {
        if (what < 0 || what > 7) {
            return BAD;
        }
        return new int[] {cave.halls.size(), open.length, hour, inOpen, noses.size(), kept.size(), text.length(),
            cave.ward}[what];
    }

    /** The air of one HOUR, each question answered from the document's words when it is asked. */
    private static final class Air {
        private final Cave cave;
        private final boolean[] open;
        private final boolean[] flooded;
        private final Integer[] known;
        final int goes;

        Air(Cave cave, boolean[] open, boolean[] flooded, int t, int warmer) {
            this.cave = cave;
            this.open = open;
            this.flooded = flooded;
            int outside = (t % 24 <= 11 ? cave.a : cave.b) + warmer;
            goes = outside < cave.c ? 1 : outside > cave.c ? 2 : 0;
            known = new Integer[cave.halls.size()];
        }

        private int z(int i) {
            return cave.halls.get(i).z;
        }

        /** The hall from which a door leads, below 0 the OPEN. */
        int from(int d) {
            Door x = cave.doors.get(d);
            if (x.other >= 0) {
                int lower = z(x.one) < z(x.other) ? x.one : x.other;
                return goes == 1 ? lower : x.one + x.other - lower;
            }
            boolean in = z(x.one) < cave.middle ? goes == 1 : goes != 1;
            return in ? -1 : x.one;
        }

        int to(int d) {
            Door x = cave.doors.get(d);
            return from(d) == x.one ? x.other : x.one;
        }

        private int lets(int d) {
            Door x = cave.doors.get(d);
            if (goes == 0 || flooded[x.one] || x.other >= 0 && flooded[x.other]) {
                return 0;
            }
            if (x.kind == 0 && open[d] || x.kind == 1 && open[d] && goes == 1) {
                return x.wide;
            }
            return x.kind == 2 ? open[d] ? x.wide : x.wide / 4 : 0;
        }

        private boolean breathes(int i) {
            for (int d = 0; d < cave.doors.size(); d++) {
                if (from(d) == i && lets(d) > 0 && (to(d) < 0 || breathes(to(d)))) {
                    return true;
                }
            }
            return false;
        }

        int airOf(int i) {
            if (known[i] == null) {
                int sum = 0;
                for (int d = 0; d < cave.doors.size() && breathes(i); d++) {
                    sum += to(d) == i ? through(d) : 0;
                }
                known[i] = sum;
            }
            return known[i];
        }

        int through(int d) {
            if (from(d) < 0) {
                return breathes(to(d)) ? lets(d) : 0;
            }
            List<Integer> ways = new ArrayList<>();
            int together = 0;
            for (int e = 0; e < cave.doors.size(); e++) {
                if (from(e) == from(d) && lets(e) > 0 && (to(e) < 0 || breathes(to(e)))) {
                    ways.add(e);
                    together += lets(e);
                }
            }
            if (!ways.contains(d)) {
                return 0;
            }
            int all = airOf(from(d));
            int left = all;
            for (int e : ways) {
                left -= all * lets(e) / together;
            }
            return all * lets(d) / together + (ways.indexOf(d) < left ? 1 : 0);
        }

        /** Whether a way leads from one hall to another, unlike one over doors through which something goes. */
        boolean isWay(int one, int other) {
            for (int d = 0; d < cave.doors.size(); d++) {
                if (from(d) == one && to(d) >= 0 && through(d) > 0 && (to(d) == other || isWay(to(d), other))) {
                    return true;
                }
            }
            return false;
        }
    }
}
