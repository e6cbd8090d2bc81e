/** Compares answers with those that are due, prints each that differs, and ends the test. */
final class Check {
    interface Call {
        Object answer();
    }

    interface IntCall {
        Object answer(int n);
    }

    static final String BOUNDS = "throws.IndexOutOfBoundsException";
    static final String ARGUMENT = "throws.IllegalArgumentException";
    static final String STATE = "throws.IllegalStateException";

    private String part = "";
    private int wrong = 0;
    private int calls = 0;

    void part(String name) {
        part = name;
    }

    /** What a call answers as a text: a thrown exception counts by its very class. */
    static String answerOf(Call call) {
        try {
            return String.valueOf(call.answer());
        } catch (RuntimeException e) {
            return "throws." + e.getClass().getSimpleName();
        }
    }

    void due(Object want, Call call) {
        calls++;
        String got = answerOf(call);
        if (!got.equals(String.valueOf(want))) {
            fail(" answered " + got + ", due is " + want);
        }
    }

    /** The last numbers that are taken and the first that are refused on both sides, and far ones, also such that an int, a short or a byte would wrap round. */
    void takes(int least, int most, String refusal, IntCall call) {
        for (int n : new int[] {least, most}) {
            calls++;
            String got = answerOf(() -> call.answer(n));
            if (got.startsWith("throws.")) {
                fail(" of " + n + " answered " + got);
            }
        }
        int[] refused = {
            least - 1, most + 1, least - 256, least + 256 * 256, least + (1 << 24), least | 1 << 31,
            Integer.MIN_VALUE, Integer.MIN_VALUE + 1, Integer.MAX_VALUE, Integer.MAX_VALUE - 1,
        };
        for (int n : refused) {
            if (n < least || n > most) {
                due(refusal, () -> call.answer(n));
            }
        }
    }

    void fail(String what) {
        wrong++;
        System.out.println(part + ", " + line() + ":" + what);
    }

    private static String line() {
        for (StackTraceElement e : new Throwable().getStackTrace()) {
            if (!e.getClassName().equals("Check")) {
                return e.getFileName() + " line " + e.getLineNumber();
            }
        }
        return "?";
    }

    void end() {
        System.out.println(calls + " calls, " + wrong + " wrong");
        if (wrong != 0 || calls == 0) {
            System.exit(1);
        }
    }

    static IceRegatta with(int boats) {
        IceRegatta x = new IceRegatta();
        for (int i = 0; i < boats; i++) {
            x.boat();
        }
        return x;
    }

    static void race(IceRegatta x, int... finishers) {
        for (int boat : finishers) {
            x.finish(boat);
        }
        x.end();
    }

    /** Feeds a text, filled up with blanks to whole feeds. */
    static void feed(IceRegatta x, String text) {
        StringBuilder all = new StringBuilder(text);
        while (all.length() % 20 != 0) {
            all.append(' ');
        }
        for (int at = 0; at < all.length(); at += 20) {
            x.feed(number(all, at), number(all, at + 4), number(all, at + 8), number(all, at + 12), number(all, at + 16));
        }
    }

    private static int number(CharSequence text, int at) {
        int number = 0;
        for (int i = 0; i < 4; i++) {
            number = number << 8 | text.charAt(at + i) & 255;
        }
        return number;
    }

    static int tell(IceRegatta x, String text) {
        feed(x, text);
        return x.rule(text.length());
    }

    /** What rule() and then fault() answer for a text. */
    static String told(IceRegatta x, String text) {
        int answer = tell(x, text);
        return answer + " at " + x.fault();
    }
}
