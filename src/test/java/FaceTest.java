import java.lang.management.ManagementFactory;
import java.lang.reflect.Constructor;
import java.lang.reflect.Field;
import java.lang.reflect.Method;
import java.lang.reflect.Modifier;
import java.util.Random;
import java.util.Set;
import java.util.TreeSet;

/** The public face and nothing beside it, calls that make no objects, and wild calls that never throw. */
public final class FaceTest {
    private static final Due DUE = new Due("FaceTest");
    private static final Set<String> METHODS = Set.of(
        "write(int,long)", "wipe()", "fault()", "lay()", "hall(int,int)", "door(int,int)", "set(int,boolean)",
        "flood(int,boolean)", "goes(int)", "air(int,int)", "through(int,int)", "downwind(int,int)", "hours(int)",
        "clean(int)", "settings(int)", "first(int,int,int)", "smelled(int,int,boolean)", "forget()", "burns()",
        "shaft(int)", "lamps(int)", "weather(int,int)", "keep()", "back()", "count(int)");
    private static final String GREAT = Look.GREAT;

    public static void main(String[] args) throws Exception {
        members();
        nested();
        makesNothing();
        neverThrows();
        DUE.end();
    }

    private static boolean isPrivate(int modifiers) {
        return Modifier.isPrivate(modifiers);
    }

    private static String signature(Method m) {
        StringBuilder s = new StringBuilder(m.getName()).append('(');
        for (Class<?> type : m.getParameterTypes()) {
            s.append(s.charAt(s.length() - 1) == '(' ? "" : ",").append(type.getName());
        }
        return s.append(')').toString();
    }

    private static void members() {
        Class<?> c = CaveBreath.class;
        DUE.holds("the class is public and final", Modifier.isPublic(c.getModifiers()) && Modifier.isFinal(c.getModifiers()));
        Set<String> found = new TreeSet<>();
        for (Method m : c.getDeclaredMethods()) {
            if (!isPrivate(m.getModifiers())) {
                found.add(signature(m));
                DUE.holds(m + " is public, of the object, answers an int",
                    m.getModifiers() == Modifier.PUBLIC && m.getReturnType() == int.class);
            } else {
                DUE.holds("no private method is named as a public one: " + m,
                    METHODS.stream().noneMatch(s -> s.startsWith(m.getName() + "(")));
            }
        }
        DUE.holds("the methods are the document's: " + found, found.equals(METHODS));
        Set<String> constants = new TreeSet<>();
        for (Field f : c.getDeclaredFields()) {
            if (!isPrivate(f.getModifiers())) {
                constants.add(f.getName());
            }
            DUE.holds("static means final: " + f, !Modifier.isStatic(f.getModifiers()) || Modifier.isFinal(f.getModifiers()));
        }
        DUE.holds("the constants are the document's: " + constants, constants.equals(Set.of("BAD", "NO", "FULL", "NONE")));
        Constructor<?>[] made = c.getDeclaredConstructors();
        DUE.holds("one constructor, public, without arguments",
            made.length == 1 && Modifier.isPublic(made[0].getModifiers()) && made[0].getParameterCount() == 0);
    }

    private static void nested() {
        Class<?>[] inside = CaveBreath.class.getDeclaredClasses();
        DUE.holds("some twelve classes at most", inside.length < 12);
        for (Class<?> c : inside) {
            int m = c.getModifiers();
            DUE.holds(c + " is static, private or package-visible",
                Modifier.isStatic(m) && !Modifier.isPublic(m) && !Modifier.isProtected(m));
            for (Method method : c.getDeclaredMethods()) {
                DUE.holds("no method inside is named as a public one: " + method,
                    METHODS.stream().noneMatch(s -> s.startsWith(method.getName() + "(")));
            }
        }
    }

    /** All calls of a run share one room, so a call may not fill it. */
    private static void makesNothing() {
        com.sun.management.ThreadMXBean bean =
            (com.sun.management.ThreadMXBean) ManagementFactory.getThreadMXBean();
        CaveBreath x = Due.laid(GREAT);
        everyCall(x);
        long id = Thread.currentThread().getId();
        bean.getThreadAllocatedBytes(id);
        long before = bean.getThreadAllocatedBytes(id);
        for (int k = 0; k < 40; k++) {
            everyCall(x);
        }
        long made = bean.getThreadAllocatedBytes(id) - before;
        // The look itself may make a little; an int[1] in any call would make 40 times 16 bytes at least.
        DUE.holds("calls make no objects: " + made + " bytes", made < 40 * 16);
    }

    private static int everyCall(CaveBreath x) {
        int sum = x.fault() + x.lay() + x.hall(1, 3) + x.door(1, 1) + x.set(3, false) + x.flood(3, true);
        sum += x.goes(3) + x.air(3, 2) + x.through(3, 2) + x.downwind(3, 2) + x.hours(99) + x.clean(5);
        sum += x.settings(0) + x.settings(1) + x.first(1, 1, 1) + x.smelled(1, 1, true) + x.burns() + x.forget();
        sum += x.shaft(0) + x.lamps(1) + x.weather(1, 30) + x.keep() + x.keep() + x.back() + x.count(3);
        int length = x.wipe();
        for (int at = 0; at < length; at++) {
            sum += x.write(1, GREAT.charAt(at));
        }
        return sum;
    }

    /** Nothing but an int ever comes back, for any arguments, also of an object used for too long. */
    private static void neverThrows() {
        Random random = new Random(4);
        for (int run = 0; run < 200; run++) {
            CaveBreath x = run % 2 == 0 ? Due.laid(GREAT) : new CaveBreath();
            for (int k = 0; k < 2000; k++) {
                wildCall(x, random);
            }
        }
        DUE.holds("wild calls end", true);
    }

    private static int wild(Random random) {
        int[] edges = {0, 1, 2, 7, 8, 9, 10, 11, 12, 23, 24, 30, 31, 32, 99, 100, 999999, 1000000, -1, -2,
            Integer.MIN_VALUE, Integer.MAX_VALUE};
        return random.nextInt(5) == 0 ? random.nextInt() : edges[random.nextInt(edges.length)];
    }

    private static int wildCall(CaveBreath x, Random random) {
        int a = wild(random);
        int b = wild(random);
        int c = wild(random);
        boolean is = random.nextBoolean();
        switch (random.nextInt(26)) {
            case 0: return x.write(a, random.nextLong());
            case 1: return x.wipe();
            case 2: return x.fault();
            case 3: return x.lay();
            case 4: return x.hall(a, b);
            case 5: return x.door(a, b);
            case 6: return x.set(a, is);
            case 7: return x.flood(a, is);
            case 8: return x.goes(a);
            case 9: return x.air(a, b);
            case 10: return x.through(a, b);
            case 11: return x.downwind(a, b);
            case 12: return x.hours(a);
            case 13: return x.clean(a);
            case 14: return random.nextInt(20) == 0 ? x.settings(a) : 0;
            case 15: return x.first(a, b, c);
            case 16: return x.smelled(a, b, is);
            case 17: return x.forget();
            case 18: return x.burns();
            case 19: return x.shaft(a);
            case 20: return x.lamps(a);
            case 21: return x.weather(a, b);
            case 22: return x.keep();
            case 23: return x.back();
            case 24: return x.count(a);
            default: return Due.write(x, GREAT.substring(0, random.nextInt(GREAT.length())));
        }
    }
}
