/** What the tests share: comparing answers, counting the wrong ones, and telling texts and bytes. */
final class Expect {
    private static int wrong = 0;
    private static int seen = 0;

    private Expect() {
    }

    static void same(String call, long got, long want) {
        seen++;
        if (got != want) {
            wrong++;
            System.out.println(call + " answered " + got + ", due is " + want);
        }
    }

    /** Ends the test: exit code 1 if an answer was wrong. */
    static void end() {
        System.out.println(seen + " answers, " + wrong + " wrong");
        if (wrong != 0) {
            System.exit(1);
        }
    }

    static void tell(MigrateSteps x, String text) {
        for (int i = 0; i < text.length(); i++) {
            x.sign(text.charAt(i));
        }
    }

    /** Tells a script that is right; answers its number. */
    static int script(MigrateSteps x, String text) {
        tell(x, text);
        try {
            return x.read();
        } catch (IllegalStateException e) {
            same("read() of '" + text + "' throws, place " + x.place(), 1, 0);
            return MigrateSteps.NONE;
        }
    }

    static void rightScript(MigrateSteps x, String text, int number) {
        same("read() of '" + text + "'", script(x, text), number);
        same("place() of '" + text + "'", x.place(), MigrateSteps.NONE);
    }

    static void wrongScript(MigrateSteps x, String text, int place) {
        tell(x, text);
        boolean thrown = false;
        try {
            x.read();
        } catch (IllegalStateException e) {
            thrown = e.getClass() == IllegalStateException.class;
        }
        same("read() of '" + text + "' throws", thrown ? 1 : 0, 1);
        same("place() of '" + text + "'", x.place(), place);
    }

    static int original(MigrateSteps x, int... bytes) {
        for (int b : bytes) {
            x.octet(b);
        }
        return x.original();
    }

    static void bytes(MigrateSteps x, int item, int... want) {
        same("about(" + item + ", 0)", x.about(item, 0), want.length);
        for (int i = 0; i < want.length && i < x.about(item, 0); i++) {
            same("at(" + item + ", " + i + ")", x.at(item, i), want[i]);
        }
    }

    static void noByte(MigrateSteps x, int item, int i) {
        boolean thrown = false;
        try {
            x.at(item, i);
        } catch (ArrayIndexOutOfBoundsException e) {
            thrown = true;
        }
        same("at(" + item + ", " + i + ") throws", thrown ? 1 : 0, 1);
    }

    static void tried(MigrateSteps x, int... want) {
        for (int i = 0; i < want.length; i++) {
            same("tried(" + i + ")", x.tried(i), want[i]);
        }
        same("tried(" + want.length + ")", x.tried(want.length), MigrateSteps.NONE);
        same("tried(-1)", x.tried(-1), MigrateSteps.NONE);
    }
}
