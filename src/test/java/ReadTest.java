/** Promise 3 read, and where a script is WRONG. */
public final class ReadTest {
    private static final String LETTERS = "rwaxsgikjzebfh";
    private static final String FORTY = Expect.commands(40, "a1");

    public static void main(String[] args) {
        oneSignBetween();
        aLetter();
        oneToThreeDigits();
        noDigit();
        aFourthDigit();
        numbers();
        atMostForty();
        theFirstThatDoesNotFit();
        aLetterThatIsNone();
        aCommandTooMany();
        numberAbove();
        theEnd();
        itsNumber();
        goneIfRight();
        goneIfWrong();
        goneIfFull();
        wrongIsNoScript();
        emptyText();
        tenScripts();
        fullBehindWrong();
        Expect.end();
    }

    private static MigrateSteps fresh() {
        return new MigrateSteps(100, 4);
    }

    private static void right(String text) {
        Expect.rightScript(fresh(), text, 0);
    }

    private static void wrong(String text, int place) {
        Expect.wrongScript(fresh(), text, place);
    }

    private static void oneSignBetween() {
        Expect.sentence("COMMANDS with one sign 32 between");
        right("h0");
        right("h0 h0");
        right("r00 w001 a255 x000 h010");
        wrong("h0  h0", 3);
        wrong("h0h0", 2);
        wrong("h0,h0", 2);
        wrong("h0\th0", 2);
        wrong("h0!h0", 2);
        wrong("h0\u001fh0", 2);
        wrong("h0\u0000h0", 2);
        wrong(" h0", 0);
    }

    private static void aLetter() {
        Expect.sentence("a letter");
        for (int c = 0; c < 256; c++) {
            if (LETTERS.indexOf(c) >= 0) {
                right((char) c + "1");
            } else {
                wrong((char) c + "1", 0);
            }
        }
    }

    private static void oneToThreeDigits() {
        Expect.sentence("1 to 3 digits");
        right("h7");
        right("h07");
        right("h007");
        right("h12");
        right("h123");
        for (char digit = '0'; digit <= '9'; digit++) {
            right("h" + digit);
        }
    }

    private static void noDigit() {
        Expect.sentence("1 digit at least");
        wrong("h", 1);
        wrong("h ", 1);
        wrong("h h0", 1);
        wrong("hh", 1);
        wrong("h-1", 1);
        wrong("h/", 1);
        wrong("h:", 1);
    }

    private static void aFourthDigit() {
        Expect.sentence("3 digits at most");
        wrong("h0001", 4);
        wrong("h1000", 4);
        wrong("h2550", 4);
        wrong("h0 h0000", 7);
        wrong("h25x", 3);
    }

    private static void numbers() {
        Expect.sentence("N, 0 .. 255");
        MigrateSteps x = fresh();
        Expect.rightScript(x, "a0 w1 a255 w1 x128 w1 x099 w1", 0);
        x.original();
        x.migrate(0, 0);
        Expect.bytes(x, 1, 0, 255, 127, 127 ^ 99);
        wrong("a256", 1);
    }

    private static void atMostForty() {
        Expect.sentence("at most 40");
        MigrateSteps x = fresh();
        Expect.rightScript(x, Expect.commands(39, "a1") + " w2", 0);
        Expect.rightScript(x, Expect.commands(39, "a1"), 1);
        x.original();
        x.migrate(0, 0);
        Expect.bytes(x, 1, 39, 39);
        Expect.same("counted()", x.counted(), 40);
        wrong(FORTY + " a1", 120);
    }

    private static void theFirstThatDoesNotFit() {
        Expect.sentence("WRONG at the first sign that does not fit");
        wrong("q1 w999", 0);
        wrong("w999 q1", 1);
        wrong("h0 w q1", 4);
        wrong("h0 w300 q", 4);
        wrong("h0,w300", 2);
        wrong("h0 q,w", 3);
        wrong("h1234 w256", 4);
        wrong("q1" + FORTY, 0);
        wrong("a256 " + FORTY, 1);
    }

    private static void aLetterThatIsNone() {
        Expect.sentence("a letter that is none, at the letter");
        wrong("q1", 0);
        wrong("H0", 0);
        wrong("5", 0);
        wrong(" ", 0);
        wrong("h0 q0", 3);
        wrong("h12 w34 Q5", 8);
    }

    private static void aCommandTooMany() {
        Expect.sentence("a command too many, at the letter");
        wrong(FORTY + " a1", 120);
        wrong(FORTY + " a", 120);
        wrong(FORTY + " q1", 120);
        wrong(FORTY + " a999", 120);
        wrong(FORTY + " a1 a1", 120);
        wrong(FORTY + "a", 119);
        wrong(FORTY + "  a1", 120);
    }

    private static void numberAbove() {
        Expect.sentence("N above 255 at its first digit");
        right("w255");
        wrong("w256", 1);
        wrong("w260", 1);
        wrong("w300", 1);
        wrong("w999", 1);
        wrong("w2560", 1);
        wrong("w256x", 1);
        wrong("h0 w256", 4);
        wrong("h12 w34 a256 h0", 9);
        wrong(Expect.commands(39, "a1") + " a256", 118);
    }

    private static void theEnd() {
        Expect.sentence("the end, if more is wanted");
        wrong("h", 1);
        wrong("h0 ", 3);
        wrong("h0 w", 4);
        wrong("h12 w34 a", 9);
        wrong("h12 w34 a56 ", 12);
        wrong(FORTY + " ", 120);
        right(FORTY);
    }

    private static void itsNumber() {
        Expect.sentence("What was told is a script more: its number");
        MigrateSteps x = fresh();
        Expect.rightScript(x, "a1 w1", 0);
        Expect.rightScript(x, "a2 w1", 1);
        Expect.rightScript(x, "a2 w1", 2);
        x.original();
        x.migrate(0, 0);
        x.migrate(0, 1);
        x.migrate(0, 2);
        Expect.bytes(x, 1, 1);
        Expect.bytes(x, 2, 2);
        Expect.bytes(x, 3, 2);
    }

    private static void goneIfRight() {
        Expect.sentence("and is gone in any case: if it is right");
        MigrateSteps x = fresh();
        Expect.rightScript(x, "a1 w1", 0);
        Expect.wrongScript(x, "", 0);
        Expect.rightScript(x, "a2 w2", 1);
        Expect.wrongScript(x, " w1", 0);
        x.original();
        x.migrate(0, 1);
        Expect.bytes(x, 1, 2, 2);
    }

    private static void goneIfWrong() {
        Expect.sentence("and is gone in any case: if it is WRONG");
        MigrateSteps x = fresh();
        Expect.wrongScript(x, "a1 w", 4);
        Expect.wrongScript(x, "1", 0);
        Expect.wrongScript(x, "a1 q", 3);
        Expect.wrongScript(x, "", 0);
        Expect.rightScript(x, "a2 w1", 0);
    }

    private static void goneIfFull() {
        Expect.sentence("and is gone in any case: if it is FULL");
        MigrateSteps x = withTen();
        Expect.rightScript(x, "a1", MigrateSteps.FULL);
        Expect.wrongScript(x, "", 0);
        Expect.rightScript(x, "a1", MigrateSteps.FULL);
        Expect.wrongScript(x, " w1", 0);
    }

    private static void wrongIsNoScript() {
        Expect.sentence("IllegalStateException if it is WRONG");
        MigrateSteps x = fresh();
        x.original();
        Expect.wrongScript(x, "a1 w1 q", 6);
        Expect.same("no script came", x.migrate(0, 0), MigrateSteps.NONE);
        Expect.rightScript(x, "a2 w1", 0);
        Expect.wrongScript(x, "a3 w1 ", 6);
        Expect.same("no second script came", x.migrate(0, 1), MigrateSteps.NONE);
        x.migrate(0, 0);
        Expect.bytes(x, 1, 2);
    }

    private static void emptyText() {
        Expect.sentence("an empty text is WRONG at 0");
        MigrateSteps x = fresh();
        Expect.wrongScript(x, "", 0);
        Expect.wrongScript(x, "", 0);
        Expect.rightScript(x, "h0", 0);
        Expect.wrongScript(x, "", 0);
    }

    private static MigrateSteps withTen() {
        MigrateSteps x = fresh();
        for (int n = 0; n < 10; n++) {
            Expect.rightScript(x, "a" + n + " w1", n);
        }
        return x;
    }

    private static void tenScripts() {
        Expect.sentence("SCRIPTS are 0 .. 9; FULL");
        MigrateSteps x = withTen();
        Expect.rightScript(x, "a99 w1", MigrateSteps.FULL);
        Expect.rightScript(x, "a99 w1", MigrateSteps.FULL);
        x.original();
        for (int n = 0; n < 10; n++) {
            Expect.same("migrate by " + n, x.migrate(0, n), n + 1);
            Expect.bytes(x, n + 1, n);
        }
        Expect.same("migrate by 10", x.migrate(0, 10), MigrateSteps.NONE);
    }

    private static void fullBehindWrong() {
        Expect.sentence("FULL behind that");
        MigrateSteps x = withTen();
        Expect.wrongScript(x, "a1 x", 4);
        Expect.wrongScript(x, "", 0);
        Expect.rightScript(x, "a99 w1", MigrateSteps.FULL);
        Expect.wrongScript(x, "a256", 1);
    }
}
