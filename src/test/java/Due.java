/** What the project's tests share: answers that are due, and how a test ends. */
final class Due {
    private final String test;
    private int wrong;
    private int looked;

    Due(String test) {
        this.test = test;
    }

    void is(String call, long got, long want) {
        looked++;
        if (got != want) {
            wrong++;
            System.out.println(test + ": " + call + " answered " + got + ", due is " + want);
        }
    }

    void holds(String what, boolean so) {
        looked++;
        if (!so) {
            wrong++;
            System.out.println(test + ": it does not hold that " + what);
        }
    }

    boolean anyWrong() {
        return wrong > 0;
    }

    void end() {
        System.out.println(test + ": " + looked + " answers looked at, " + wrong + " not as due");
        if (wrong > 0) {
            System.exit(1);
        }
    }

    /** Writes a text behind THE TEXT of x, eight bytes a call, and answers what the last call did. */
    static int write(CaveBreath x, String text) {
        int answer = x.count(6);
        for (int at = 0; at < text.length(); at += 8) {
            int n = Math.min(8, text.length() - at);
            long v = 0;
            for (int k = 0; k < n; k++) {
                v = v << 8 | text.charAt(at + k) & 255;
            }
            answer = x.write(n, v);
        }
        return answer;
    }

    /** A new object with this text LAID. */
    static CaveBreath laid(String text) {
        CaveBreath x = new CaveBreath();
        write(x, text);
        if (x.lay() < 1) {
            throw new IllegalStateException("not to be laid: " + text);
        }
        return x;
    }

    static int faultOf(String text) {
        CaveBreath x = new CaveBreath();
        write(x, text);
        return x.fault();
    }
}
