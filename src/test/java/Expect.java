/** What the tests share: comparing answers, counting the wrong ones, and telling texts and bytes. */
final class Expect {
    /** Numbers that no script and no item ever bears. */
    static final int[] NO_NUMBERS = {-2, -3, 60, 255, 256, Integer.MIN_VALUE, Integer.MAX_VALUE};

    private static String sentence = "";
    private static int wrong = 0;
    private static int seen = 0;

    private Expect() {
    }

    /** The document's words that the answers behind this call belong to, in a test of their own. */
    static void sentence(String words) {
        sentence = words;
    }

    static void same(String call, long got, long want) {
        seen++;
        if (got != want) {
            wrong++;
            System.out.println("[" + sentence + "] " + call + " answered " + got + ", due is " + want);
        }
    }

    /** Ends the test: exit code 1 if an answer was wrong. */
    static void end() {
        System.out.println(seen + " answers, " + wrong + " wrong");
        if (wrong != 0 || seen == 0) {
            System.exit(1);
        }
    }

    /** A new object with these scripts, 50 steps and one cell. */
    static MigrateSteps with(String... scripts) {
        return withSteps(50, scripts);
    }

    static MigrateSteps withSteps(int steps, String... scripts) {
        MigrateSteps x = new MigrateSteps(steps, 1);
        for (String text : scripts) {
            script(x, text);
        }
        return x;
    }

    static void tell(MigrateSteps x, String text) {
        for (int i = 0; i < text.length(); i++) {
            x.sign(text.charAt(i));
        }
    }

    /** A text of the same command so many times. */
    static String commands(int count, String one) {
        return one + (" " + one).repeat(count - 1);
    }

    /** Tells a script that is right; answers its number. */
    static int script(MigrateSteps x, String text) {
        tell(x, text);
        try {
            return x.read();
        } catch (RuntimeException e) {
            same("read() of '" + text + "' throws " + e + ", place " + x.place(), 1, 0);
            return MigrateSteps.NONE;
        }
    }

    static void rightScript(MigrateSteps x, String text, int number) {
        same("read() of '" + text + "'", script(x, text), number);
        same("place() of '" + text + "'", x.place(), MigrateSteps.NONE);
    }

    static void wrongScript(MigrateSteps x, String text, int place) {
        tell(x, text);
        boolean thrown = false;
        try {
            x.read();
        } catch (RuntimeException e) {
            thrown = e.getClass() == IllegalStateException.class;
        }
        same("read() of '" + text + "' throws", thrown ? 1 : 0, 1);
        same("place() of '" + text + "'", x.place(), place);
    }

    static int original(MigrateSteps x, int... bytes) {
        for (int b : bytes) {
            x.octet(b);
        }
        return x.original();
    }

    /** So many originals, each of one byte, its own number. */
    static void originals(MigrateSteps x, int count) {
        for (int n = 0; n < count; n++) {
            same("original()", original(x, n), n);
        }
    }

    static void bytes(MigrateSteps x, int item, int... want) {
        int size = x.about(item, 0);
        same("about(" + item + ", 0)", size, want.length);
        for (int i = 0; i < want.length && i < size; i++) {
            at(x, item, i, want[i]);
        }
    }

    static void at(MigrateSteps x, int item, int i, int want) {
        String call = "at(" + item + ", " + i + ")";
        try {
            same(call, x.at(item, i), want);
        } catch (RuntimeException e) {
            same(call + " throws " + e, 1, 0);
        }
    }

    static void noByte(MigrateSteps x, int item, int i) {
        boolean thrown = false;
        try {
            x.at(item, i);
        } catch (RuntimeException e) {
            thrown = e.getClass() == ArrayIndexOutOfBoundsException.class;
        }
        same("at(" + item + ", " + i + ") throws", thrown ? 1 : 0, 1);
    }

    static void tried(MigrateSteps x, int... want) {
        for (int i = 0; i < want.length; i++) {
            same("tried(" + i + ")", x.tried(i), want[i]);
        }
        same("tried(" + want.length + ")", x.tried(want.length), MigrateSteps.NONE);
    }

    /** For each item a 1 if it is GONE, a 0 if it is not; there are no more items than that. */
    static void gone(MigrateSteps x, String due) {
        for (int n = 0; n < due.length(); n++) {
            same("about(" + n + ", 3)", x.about(n, 3), due.charAt(n) - '0');
        }
        same("about(" + due.length() + ", 3)", x.about(due.length(), 3), MigrateSteps.NONE);
    }
}
