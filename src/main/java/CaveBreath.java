import java.util.Arrays;

/** Breath of the caves: halls, doors, the air that goes through them and the wardens who set them. */
public final class CaveBreath {
    public static final int BAD = -1, NO = -2, FULL = -3, NONE = -4;

    private static final int MOST_BYTES = 400;
    private static final int MOST_HALLS = 8;
    private static final int MOST_DOORS = 10;
    private static final int MOST_SMELLED = 10;
    private static final int MOST_KEPT = 2;
    private static final int MOST_NUMBERS = 4;

    private static final int DAY = 24;
    private static final int HALF_DAY = 12;
    private static final int LAST_HOUR = 999999;
    private static final int MOST_HOURS_AT_ONCE = 99;
    private static final int LAST_DRAW = 9999;
    private static final int MOST_DAYS = 30;

    private static final int STILL = 0, UP = 1, DOWN = 2;
    private static final int PLAIN = 0, FLAP = 1, LEAKY = 2, BRICKED = 3;
    private static final int MOST_MADE = 50;
    private static final int MOST_WIDE = 50;
    private static final int MOST_SWING = 30;
    private static final int SHAFT_WIDE = 10;

    // The OPEN bears the number behind the last hall's, so that one row holds the halls and the OPEN.
    private static final int OPEN = MOST_HALLS;
    private static final int PLACES = MOST_HALLS + 1;

    private final byte[] text = new byte[MOST_BYTES];
    private int length;
    private final Reader reader = new Reader();
    private Plan plan = new Plan();
    // Read into and built upon before it counts; what stands in it between two calls is of no account.
    private Plan draft = new Plan();
    private final State now = new State();
    private final State keptFirst = new State();
    private final State keptSecond = new State();
    private int kept;
    private final Noses noses = new Noses();
    private final Breath breath = new Breath();

    public CaveBreath() {
        plan.empty();
        plan.addHall(10, 0, 0);
        plan.settle();
        now.begin(plan.doors);
    }

    // ---- caves

    public int write(int n, long v) {
        if (n < 1 || n > 8) {
            return BAD;
        }
        if (length + n > MOST_BYTES) {
            return FULL;
        }
        for (int k = n - 1; k >= 0; k--) {
            text[length] = (byte) (v >>> (8 * k));
            length++;
        }
        return length;
    }

    public int wipe() {
        int was = length;
        length = 0;
        return was;
    }

    public int fault() {
        return reader.firstFault(text, length, draft);
    }

    public int lay() {
        if (reader.firstFault(text, length, draft) != NONE || draft.halls == 0) {
            return NO;
        }
        Plan read = draft;
        draft = plan;
        plan = read;
        plan.settle();
        now.begin(plan.doors);
        noses.told = 0;
        kept = 0;
        return plan.halls;
    }

    public int hall(int i, int what) {
        if (!isHall(i)) {
            return BAD;
        }
        switch (what) {
            case 0: return plan.height[i];
            case 1: return plan.makes[i];
            case 2: return plan.needs[i];
            case 3: return now.smoke[i];
            case 4: return bitOf(now.flooded, i);
            default: return BAD;
        }
    }

    public int door(int d, int what) {
        if (!isDoor(d)) {
            return BAD;
        }
        switch (what) {
            case 0: return plan.oneHall[d];
            case 1: return plan.otherHall[d] == OPEN ? NONE : plan.otherHall[d];
            case 2: return plan.wide[d];
            case 3: return plan.kind[d];
            case 4: return bitOf(now.open, d);
            default: return BAD;
        }
    }

    public int set(int d, boolean open) {
        if (!isDoor(d)) {
            return BAD;
        }
        int was = bitOf(now.open, d);
        now.open = withBit(now.open, d, open);
        return was;
    }

    public int flood(int i, boolean is) {
        if (!isHall(i)) {
            return BAD;
        }
        int was = bitOf(now.flooded, i);
        now.flooded = withBit(now.flooded, i, is);
        return was;
    }

    // ---- air

    public int goes(int t) {
        return isHour(t) ? plan.wayIn(t) : BAD;
    }

    public int air(int t, int i) {
        if (!isHour(t) || !isHall(i)) {
            return BAD;
        }
        blowNow(plan.wayIn(t));
        return breath.airOf[i];
    }

    public int through(int t, int d) {
        if (!isHour(t) || !isDoor(d)) {
            return BAD;
        }
        blowNow(plan.wayIn(t));
        return breath.flow[d];
    }

    public int downwind(int t, int i) {
        if (!isHour(t) || !isHall(i)) {
            return BAD;
        }
        blowNow(plan.wayIn(t));
        return withBit(breath.carriedFrom(1 << i), i, false);
    }

    public int hours(int n) {
        if (n < 1 || n > MOST_HOURS_AT_ONCE) {
            return BAD;
        }
        for (int k = 0; k < n; k++) {
            // Within half a day the air goes alike, so it need not be worked out anew.
            if (k == 0 || now.hour % HALF_DAY == 0) {
                blowNow(plan.wayIn(now.hour));
            }
            now.passHour(plan, breath);
        }
        return now.smokeInHalls(plan.halls);
    }

    // ---- wardens

    public int clean(int set) {
        if (set < 0 || set >= 1 << plan.doors) {
            return BAD;
        }
        return isClean(set) ? 1 : 0;
    }

    public int settings(int what) {
        switch (what) {
            case 0: return howManyClean();
            case 1: return nearestClean();
            default: return BAD;
        }
    }

    public int first(int i, int t, int what) {
        if (!isHall(i) || !isHour(t) || !isEither(what)) {
            return BAD;
        }
        int flooded = withBit(now.flooded, i, true);
        int way = plan.wayIn(t);
        int best = plan.doors;
        int most = wardAir(now.open, flooded, way);
        for (int d = 0; d < plan.doors; d++) {
            int got = wardAir(now.open ^ (1 << d), flooded, way);
            if (got > most) {
                most = got;
                best = d;
            }
        }
        return what == 0 ? best : most;
    }

    public int smelled(int h, int i, boolean did) {
        if (h < 0 || h >= DAY || !isHall(i)) {
            return BAD;
        }
        if (noses.told >= MOST_SMELLED) {
            return FULL;
        }
        noses.hear(h, i, did);
        return noses.told;
    }

    public int forget() {
        int were = noses.told;
        noses.told = 0;
        return were;
    }

    public int burns() {
        int halls = (1 << plan.halls) - 1;
        for (int k = 0; k < noses.told; k++) {
            blowNow(plan.wayIn(noses.hour[k]));
            for (int i = 0; i < plan.halls; i++) {
                int reached = breath.carriedFrom(1 << i);
                if (bitOf(reached, noses.hall[k]) != noses.did[k]) {
                    halls = withBit(halls, i, false);
                }
            }
        }
        return halls;
    }

    public int shaft(int what) {
        if (!isEither(what)) {
            return BAD;
        }
        if (plan.doors >= MOST_DOORS) {
            return NO;
        }
        draft.copyFrom(plan);
        int best = 0;
        int most = -1;
        for (int i = 0; i < plan.halls; i++) {
            int got = wardAirWithShaft(i);
            if (got > most) {
                most = got;
                best = i;
            }
        }
        return what == 0 ? best : most;
    }

    public int lamps(int i) {
        return isHall(i) ? leastAir(plan, now.open, i) / 3 : BAD;
    }

    public int weather(int z, int n) {
        if (z < 0 || z > LAST_DRAW || n < 1 || n > MOST_DAYS) {
            return BAD;
        }
        boolean foulUp = isWardFoul(UP);
        boolean foulDown = isWardFoul(DOWN);
        int good = 0;
        for (int day = 0; day < n; day++) {
            int warmer = warmerBy(z, day);
            int one = plan.wayAt(plan.early + warmer);
            int other = plan.wayAt(plan.late + warmer);
            boolean up = one == UP || other == UP;
            boolean down = one == DOWN || other == DOWN;
            if (!(up && foulUp) && !(down && foulDown)) {
                good++;
            }
        }
        return good;
    }

    public int keep() {
        if (kept >= MOST_KEPT) {
            return FULL;
        }
        keptAt(kept).copyFrom(now);
        kept++;
        return kept;
    }

    public int back() {
        if (kept <= 0) {
            return NO;
        }
        kept--;
        now.copyFrom(keptAt(kept));
        return kept;
    }

    public int count(int what) {
        switch (what) {
            case 0: return plan.halls;
            case 1: return plan.doors;
            case 2: return now.hour;
            case 3: return now.smoke[OPEN];
            case 4: return noses.told;
            case 5: return kept;
            case 6: return length;
            case 7: return plan.ward;
            default: return BAD;
        }
    }

    // ---- what the calls share

    private boolean isHall(int i) {
        return i >= 0 && i < plan.halls;
    }

    private boolean isDoor(int d) {
        return d >= 0 && d < plan.doors;
    }

    private static boolean isHour(int t) {
        return t >= 0 && t <= LAST_HOUR;
    }

    private static boolean isEither(int what) {
        return what == 0 || what == 1;
    }

    private static int bitOf(int bits, int k) {
        return (bits >> k) & 1;
    }

    private static int withBit(int bits, int k, boolean on) {
        return on ? bits | (1 << k) : bits & ~(1 << k);
    }

    private State keptAt(int k) {
        return k == 0 ? keptFirst : keptSecond;
    }

    private void blowNow(int way) {
        breath.blow(plan, now.open, now.flooded, way);
    }

    private int wardAir(int open, int flooded, int way) {
        breath.blow(plan, open, flooded, way);
        return breath.airOf[plan.ward];
    }

    /** Of the flows worked out last: whether the WARD is DOWNWIND of a HALL that makes SMOKE. */
    private boolean isWardDownwindOfSmoke() {
        int others = withBit(plan.smoky, plan.ward, false);
        return bitOf(breath.carriedFrom(others), plan.ward) == 1;
    }

    private boolean isWardFoul(int way) {
        blowNow(way);
        return isWardDownwindOfSmoke();
    }

    private boolean isClean(int open) {
        int early = plan.wayAt(plan.early);
        int late = plan.wayAt(plan.late);
        return isCleanBy(open, early) && (late == early || isCleanBy(open, late));
    }

    private boolean isCleanBy(int open, int way) {
        if (way == STILL) {
            return true;
        }
        breath.blow(plan, open, now.flooded, way);
        for (int i = 0; i < plan.halls; i++) {
            if (breath.airOf[i] < plan.needs[i]) {
                return false;
            }
        }
        return !isWardDownwindOfSmoke();
    }

    private int howManyClean() {
        int many = 0;
        for (int open = 0; open < 1 << plan.doors; open++) {
            if (isClean(open)) {
                many++;
            }
        }
        return many;
    }

    private int nearestClean() {
        for (int changes = 0; changes <= plan.doors; changes++) {
            for (int open = 0; open < 1 << plan.doors; open++) {
                if (Integer.bitCount(open ^ now.open) == changes && isClean(open)) {
                    return open;
                }
            }
        }
        return NONE;
    }

    /** The least AIR of a HALL in a DAY; both halves are looked at, as within each all HOURS are alike. */
    private int leastAir(Plan of, int open, int i) {
        breath.blow(of, open, now.flooded, of.wayAt(of.early));
        int early = breath.airOf[i];
        breath.blow(of, open, now.flooded, of.wayAt(of.late));
        return Math.min(early, breath.airOf[i]);
    }

    /** The draft must be as the plan is, and is so again afterwards but for its ways. */
    private int wardAirWithShaft(int i) {
        int shaft = draft.doors;
        draft.addDoor(i, OPEN, SHAFT_WIDE, PLAIN);
        draft.settle();
        int least = leastAir(draft, withBit(now.open, shaft, true), draft.ward);
        draft.doors = shaft;
        return least;
    }

    private int warmerBy(int z, int day) {
        long x = 7919L * z + 6151L * day + 1;
        int choices = plan.swing + 1;
        return choices > 0 ? (int) (x * x % 65521 % choices) : 0;
    }

    /** What a TEXT tells. */
    private static final class Plan {
        final int[] height = new int[MOST_HALLS];
        final int[] makes = new int[MOST_HALLS];
        final int[] needs = new int[MOST_HALLS];
        final int[] oneHall = new int[MOST_DOORS];
        final int[] otherHall = new int[MOST_DOORS];
        final int[] wide = new int[MOST_DOORS];
        final int[] kind = new int[MOST_DOORS];
        final Wind up = new Wind();
        final Wind down = new Wind();
        int halls;
        int doors;
        int smoky;
        int middle;
        int warm;
        int early;
        int late;
        int ward;
        int swing;

        void empty() {
            halls = 0;
            doors = 0;
            smoky = 0;
            middle = 50;
            warm = 12;
            early = 5;
            late = 20;
            ward = 0;
            swing = 0;
        }

        void copyFrom(Plan other) {
            System.arraycopy(other.height, 0, height, 0, MOST_HALLS);
            System.arraycopy(other.makes, 0, makes, 0, MOST_HALLS);
            System.arraycopy(other.needs, 0, needs, 0, MOST_HALLS);
            System.arraycopy(other.oneHall, 0, oneHall, 0, MOST_DOORS);
            System.arraycopy(other.otherHall, 0, otherHall, 0, MOST_DOORS);
            System.arraycopy(other.wide, 0, wide, 0, MOST_DOORS);
            System.arraycopy(other.kind, 0, kind, 0, MOST_DOORS);
            halls = other.halls;
            doors = other.doors;
            smoky = other.smoky;
            middle = other.middle;
            warm = other.warm;
            early = other.early;
            late = other.late;
            ward = other.ward;
            swing = other.swing;
        }

        /** Takes an ITEM's numbers, each 0 to 99 already: false, if it is none that may stand here. */
        boolean take(int letter, int[] n) {
            switch (letter) {
                case 'h':
                    return addHall(n[0], n[1], n[2]);
                case 'd':
                    return isTold(n[1]) && addDoor(n[0], n[1], n[2], n[3]);
                case 'o':
                    return addDoor(n[0], OPEN, n[1], n[2]);
                case 'm':
                    middle = n[0];
                    return true;
                case 'c':
                    warm = n[0];
                    return true;
                case 'w':
                    early = n[0];
                    late = n[1];
                    return true;
                case 's':
                    return placeWard(n[0]);
                case 'v':
                    return swingBy(n[0]);
                default:
                    return false;
            }
        }

        boolean isTold(int i) {
            return i >= 0 && i < halls;
        }

        boolean addHall(int z, int s, int n) {
            if (halls >= MOST_HALLS || s > MOST_MADE) {
                return false;
            }
            height[halls] = z;
            makes[halls] = s;
            needs[halls] = n;
            smoky = withBit(smoky, halls, s > 0);
            halls++;
            return true;
        }

        boolean addDoor(int one, int other, int w, int k) {
            if (doors >= MOST_DOORS || !isTold(one) || !(other == OPEN || isBetween(one, other))) {
                return false;
            }
            if (w < 1 || w > MOST_WIDE || k < PLAIN || k > BRICKED) {
                return false;
            }
            oneHall[doors] = one;
            otherHall[doors] = other;
            wide[doors] = w;
            kind[doors] = k;
            doors++;
            return true;
        }

        boolean isBetween(int one, int other) {
            // Halls of unlike height are unlike halls, too.
            return isTold(one) && isTold(other) && height[one] != height[other];
        }

        boolean placeWard(int i) {
            if (!isTold(i)) {
                return false;
            }
            ward = i;
            return true;
        }

        boolean swingBy(int most) {
            if (most > MOST_SWING) {
                return false;
            }
            swing = most;
            return true;
        }

        /** To be called when the last HALL and DOOR is told: air cannot be asked for before. */
        void settle() {
            up.follow(this, true);
            down.follow(this, false);
        }

        int wayIn(int hour) {
            return wayAt(hour % DAY < HALF_DAY ? early : late);
        }

        int wayAt(int outside) {
            if (outside == warm) {
                return STILL;
            }
            return outside < warm ? UP : DOWN;
        }

        /** What a DOOR lets, its HALLS being dry. */
        int letBy(int d, boolean open, int way) {
            if (way == STILL) {
                return 0;
            }
            switch (kind[d]) {
                case PLAIN: return open ? wide[d] : 0;
                case FLAP: return open && way == UP ? wide[d] : 0;
                case LEAKY: return open ? wide[d] : wide[d] / 4;
                default: return 0;
            }
        }
    }

    /** Which way each DOOR of a plan leads, when air goes up, or when it goes down. */
    private static final class Wind {
        final int[] from = new int[MOST_DOORS];
        final int[] to = new int[MOST_DOORS];
        // The OPEN, then the HALLS, so that each DOOR leads to a later place (or out).
        final int[] placeAt = new int[PLACES];
        int places;
        // DOORS by the place from which they lead, the lowest first; those of one place end at endAt.
        final int[] doorAt = new int[MOST_DOORS];
        final int[] endAt = new int[PLACES];
        int doors;

        void follow(Plan plan, boolean up) {
            doors = plan.doors;
            places = plan.halls + 1;
            for (int d = 0; d < doors; d++) {
                if (plan.otherHall[d] == OPEN) {
                    leadOutside(plan, d, up);
                } else {
                    leadInside(plan, d, up);
                }
            }
            orderPlaces(plan, up);
            orderDoors();
        }

        void leadInside(Plan plan, int d, boolean up) {
            int one = plan.oneHall[d];
            int other = plan.otherHall[d];
            boolean leadsOn = (plan.height[one] < plan.height[other]) == up;
            from[d] = leadsOn ? one : other;
            to[d] = leadsOn ? other : one;
        }

        void leadOutside(Plan plan, int d, boolean up) {
            int one = plan.oneHall[d];
            boolean leadsIn = (plan.height[one] < plan.middle) == up;
            from[d] = leadsIn ? OPEN : one;
            to[d] = leadsIn ? one : OPEN;
        }

        void orderPlaces(Plan plan, boolean up) {
            placeAt[0] = OPEN;
            for (int i = 0; i < plan.halls; i++) {
                int at = i + 1;
                while (at > 1 && isLater(plan, placeAt[at - 1], i, up)) {
                    placeAt[at] = placeAt[at - 1];
                    at--;
                }
                placeAt[at] = i;
            }
        }

        static boolean isLater(Plan plan, int one, int other, boolean up) {
            int above = plan.height[one] - plan.height[other];
            return up ? above > 0 : above < 0;
        }

        void orderDoors() {
            int at = 0;
            for (int p = 0; p < places; p++) {
                for (int d = 0; d < doors; d++) {
                    if (from[d] == placeAt[p]) {
                        doorAt[at] = d;
                        at++;
                    }
                }
                endAt[p] = at;
            }
        }
    }

    /** The AIR of each HALL, and what goes through each DOOR, in one HOUR. */
    private static final class Breath {
        final int[] airOf = new int[PLACES];
        final int[] flow = new int[MOST_DOORS];
        // Only of DOORS through which air may come into the OPEN in the end; 0 of others.
        final int[] lets = new int[MOST_DOORS];
        final int[] letsOut = new int[PLACES];
        Wind wind = new Wind();

        void blow(Plan plan, int open, int flooded, int way) {
            wind = way == DOWN ? plan.down : plan.up;
            for (int d = 0; d < plan.doors; d++) {
                int wet = bitOf(flooded, plan.oneHall[d]) | bitOf(flooded, plan.otherHall[d]);
                lets[d] = wet == 1 ? 0 : plan.letBy(d, bitOf(open, d) == 1, way);
            }
            Arrays.fill(airOf, 0);
            Arrays.fill(letsOut, 0);
            shutDeadEnds();
            // The OPEN hands out just what its DOORS let, so it can be treated as a HALL with that AIR.
            airOf[OPEN] = letsOut[OPEN];
            for (int p = 0; p < wind.places; p++) {
                handOn(p);
            }
        }

        /** From the last place back: whether a HALL BREATHES is known before DOORS to it are looked at. */
        void shutDeadEnds() {
            int breathing = 1 << OPEN;
            for (int k = wind.doors - 1; k >= 0; k--) {
                int d = wind.doorAt[k];
                if (bitOf(breathing, wind.to[d]) == 0) {
                    lets[d] = 0;
                } else if (lets[d] > 0) {
                    breathing |= 1 << wind.from[d];
                    letsOut[wind.from[d]] += lets[d];
                }
            }
        }

        void handOn(int p) {
            int place = wind.placeAt[p];
            int begin = p == 0 ? 0 : wind.endAt[p - 1];
            int left = airOf[place];
            for (int k = begin; k < wind.endAt[p]; k++) {
                int d = wind.doorAt[k];
                flow[d] = letsOut[place] > 0 ? airOf[place] * lets[d] / letsOut[place] : 0;
                left -= flow[d];
            }
            for (int k = begin; k < wind.endAt[p]; k++) {
                int d = wind.doorAt[k];
                if (lets[d] > 0 && left > 0) {
                    flow[d]++;
                    left--;
                }
                airOf[wind.to[d]] += flow[d];
            }
        }

        /** HALLS (bits) together with all that are DOWNWIND of one of them. */
        int carriedFrom(int halls) {
            int reached = halls;
            for (int k = 0; k < wind.doors; k++) {
                int d = wind.doorAt[k];
                if (flow[d] > 0 && wind.to[d] != OPEN && bitOf(reached, wind.from[d]) == 1) {
                    reached |= 1 << wind.to[d];
                }
            }
            return reached;
        }
    }

    /** What changes as wardens set doors and HOURS go by; DOORS and FLOODED HALLS are bits. */
    private static final class State {
        int open;
        int flooded;
        int hour;
        final int[] smoke = new int[PLACES];
        final int[] more = new int[PLACES];

        void begin(int doors) {
            open = (1 << doors) - 1;
            flooded = 0;
            hour = 0;
            Arrays.fill(smoke, 0);
        }

        void copyFrom(State other) {
            open = other.open;
            flooded = other.flooded;
            hour = other.hour;
            System.arraycopy(other.smoke, 0, smoke, 0, PLACES);
        }

        void passHour(Plan plan, Breath breath) {
            for (int i = 0; i < plan.halls; i++) {
                smoke[i] += plan.makes[i];
            }
            Arrays.fill(more, 0);
            for (int d = 0; d < plan.doors; d++) {
                int from = breath.wind.from[d];
                if (from != OPEN) {
                    int gone = carriedBy(smoke[from], breath.flow[d], breath.airOf[from]);
                    more[from] -= gone;
                    more[breath.wind.to[d]] += gone;
                }
            }
            for (int place = 0; place < PLACES; place++) {
                smoke[place] += more[place];
            }
            hour++;
        }

        static int carriedBy(int smoke, int flow, int air) {
            int share = air + 20;
            return share > 0 ? (int) ((long) smoke * flow / share) : 0;
        }

        int smokeInHalls(int halls) {
            int sum = 0;
            for (int i = 0; i < halls; i++) {
                sum += smoke[i];
            }
            return sum;
        }
    }

    /** Who SMELLED it when, or did not. */
    private static final class Noses {
        final int[] hour = new int[MOST_SMELLED];
        final int[] hall = new int[MOST_SMELLED];
        final int[] did = new int[MOST_SMELLED];
        int told;

        void hear(int h, int i, boolean smelledIt) {
            if (told < MOST_SMELLED) {
                hour[told] = h;
                hall[told] = i;
                did[told] = smelledIt ? 1 : 0;
                told++;
            }
        }
    }

    /** Reads a TEXT into a plan, up to its first FAULT. */
    private static final class Reader {
        final int[] numbers = new int[MOST_NUMBERS];
        byte[] bytes = new byte[0];
        int end;
        int at;

        int firstFault(byte[] text, int length, Plan plan) {
            bytes = text;
            end = Math.min(length, text.length);
            at = 0;
            plan.empty();
            // An ITEM has a byte at least, so there are never more of them than bytes.
            for (int items = 0; items < MOST_BYTES && at < end; items++) {
                int begin = at;
                int letter = nextByte();
                if (!readNumbers(numbersBehind(letter)) || !plan.take(letter, numbers)) {
                    return begin;
                }
            }
            return NONE;
        }

        static int numbersBehind(int letter) {
            switch (letter) {
                case 'h':
                case 'o':
                    return 3;
                case 'd':
                    return 4;
                case 'w':
                    return 2;
                case 'm':
                case 'c':
                case 's':
                case 'v':
                    return 1;
                default:
                    return 0;
            }
        }

        /** The byte that comes next, which is then behind us; -1 at the end. */
        int nextByte() {
            if (at >= end) {
                return -1;
            }
            int next = bytes[at] & 255;
            at++;
            return next;
        }

        boolean readNumbers(int many) {
            for (int k = 0; k < many && k < MOST_NUMBERS; k++) {
                if (!readNumber(k, k == many - 1 ? ';' : ',')) {
                    return false;
                }
            }
            return many > 0;
        }

        boolean readNumber(int k, int behind) {
            int figure = nextByte();
            if (!isFigure(figure)) {
                return false;
            }
            int number = figure - '0';
            int next = nextByte();
            if (isFigure(next)) {
                number = number * 10 + next - '0';
                next = nextByte();
            }
            numbers[k] = number;
            return next == behind;
        }

        static boolean isFigure(int sign) {
            return sign >= '0' && sign <= '9';
        }
    }
}
