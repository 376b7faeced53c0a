import java.lang.reflect.InvocationTargetException;
import java.lang.reflect.Method;
import java.lang.reflect.Modifier;
import java.util.Map;
import java.util.TreeMap;
import java.util.function.ToIntFunction;

/** What the project's tests share: answers that are due, and how a test ends. */
final class Due {
    private final String test;
    private String sentence = "";
    private int wrong;
    private int looked;

    Due(String test) {
        this.test = test;
    }

    /** The promise, and the document's own words, that the answers from here on are held against. */
    void says(int promise, String words) {
        sentence = "promise " + promise + ", '" + words + "': ";
    }

    void is(String call, long got, long want) {
        looked++;
        if (got != want) {
            wrong++;
            System.out.println(test + ": " + sentence + call + " answered " + got + ", due is " + want);
        }
    }

    void holds(String what, boolean so) {
        looked++;
        if (!so) {
            wrong++;
            System.out.println(test + ": " + sentence + "it does not hold that " + what);
        }
    }

    /** Two looks at objects (see Look) must be alike: told is the first row that is not. */
    void alike(String when, String got, String want) {
        String[] g = got.split("\n");
        String[] w = want.split("\n");
        int k = 0;
        while (k < g.length && k < w.length && g[k].equals(w[k])) {
            k++;
        }
        String other = k < g.length && k < w.length ? "'" + g[k] + "', not '" + w[k] + "'" : "";
        holds("all stays as it is when " + when + " " + other, got.equals(want));
    }

    /** A call that is refused on an object in the midst of its use, and changes nothing there. */
    void refused(String call, ToIntFunction<CaveBreath> made, int want) {
        CaveBreath x = Look.inUse();
        is(call, made.applyAsInt(x), want);
        alike(call + " is refused", Look.throughAll(x), Look.throughAll(Look.inUse()));
    }

    /** The same on an object that is full of everything. */
    void refusedByFull(String call, ToIntFunction<CaveBreath> made, int want) {
        CaveBreath x = Look.full();
        is(call, made.applyAsInt(x), want);
        alike(call + " is refused", Look.throughAll(x), Look.throughAll(Look.full()));
    }

    boolean anyWrong() {
        return wrong > 0;
    }

    /** Runs each method promiseNN.. of a test; each of these promises must have one. */
    void runPromises(Class<?> tests, int first, int last) {
        Map<String, Method> found = new TreeMap<>();
        for (Method m : tests.getDeclaredMethods()) {
            if (m.getName().matches("promise[0-9]{2}.+") && Modifier.isStatic(m.getModifiers())) {
                found.put(m.getName(), m);
            }
        }
        for (int promise = first; promise <= last; promise++) {
            String begin = String.format("promise%02d", promise);
            holds(begin + " has a test", found.keySet().stream().anyMatch(name -> name.startsWith(begin)));
        }
        for (Method m : found.values()) {
            run(m);
        }
        sentence = "";
    }

    private void run(Method m) {
        int before = looked;
        try {
            m.invoke(null);
        } catch (IllegalAccessException | InvocationTargetException e) {
            Throwable cause = e.getCause() == null ? e : e.getCause();
            holds(m.getName() + " ends without " + cause, false);
        }
        holds(m.getName() + " looked at something", looked > before);
    }

    void end() {
        System.out.println(test + ": " + looked + " answers looked at, " + wrong + " not as due");
        if (wrong > 0) {
            System.exit(1);
        }
    }

    /** Writes a text behind THE TEXT of x, eight bytes a call, and answers what the last call did. */
    static int write(CaveBreath x, String text) {
        int answer = x.count(6);
        for (int at = 0; at < text.length(); at += 8) {
            int n = Math.min(8, text.length() - at);
            long v = 0;
            for (int k = 0; k < n; k++) {
                v = v << 8 | text.charAt(at + k) & 255;
            }
            answer = x.write(n, v);
        }
        return answer;
    }

    /** A new object with this text LAID. */
    static CaveBreath laid(String text) {
        CaveBreath x = new CaveBreath();
        write(x, text);
        if (x.lay() < 1) {
            throw new IllegalStateException("not to be laid: " + text);
        }
        return x;
    }

    static int faultOf(String text) {
        CaveBreath x = new CaveBreath();
        write(x, text);
        return x.fault();
    }
}
