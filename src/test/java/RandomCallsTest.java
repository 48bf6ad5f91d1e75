import java.util.Random;

/** All promises together: runs of 512 calls, made from written seeds, against the plain model. */
public final class RandomCallsTest {
    private static final int RUNS = 3000;
    private static final int CALLS = 512;
    /** The most calls of one turn that tells no text: 49 bytes and original(). */
    private static final int TURN = 50;
    private static final int[] ODD = {Integer.MIN_VALUE, Integer.MAX_VALUE, -2, -1, 10, 39, 40, 59, 60, 255, 256};
    private static final String[] SCRIPTS = {
        "e5 r0 w1 i1 b0", "r0 a1 w1", "e6 r0 x255 w2 i1 b0", "r0 s1 r1 w1 g1 w1", "h0", "w40", "a7 w41",
        "e7 r0 z5 w1 b5 i1 b0", "r0 f3 w1", "b0", "a9 w3 r200", "r0 j3 a1 w9 a255 j3", "g31 s31 w1 s0"};

    private final Random random;
    private final MigrateSteps x;
    private final PlainModel model;
    private final String name;
    private int calls = 0;

    private RandomCallsTest(int seed) {
        random = new Random(seed);
        int steps = random.nextInt(4) == 0 ? random.nextInt(12) - 2 : random.nextInt(2100);
        int cells = random.nextInt(40) - 3;
        x = new MigrateSteps(steps, cells);
        model = new PlainModel(steps, cells);
        name = "seed " + seed + ": ";
    }

    public static void main(String[] args) {
        for (int seed = 0; seed < RUNS; seed++) {
            RandomCallsTest run = new RandomCallsTest(seed);
            // some runs make many items, some few; a text needs many calls
            int texts = 2 + seed % 30;
            while (run.calls + TURN <= CALLS) {
                run.any(texts);
            }
        }
        Expect.end();
    }

    private int below(int most) {
        return random.nextInt(25) == 0 ? ODD[random.nextInt(ODD.length)] : random.nextInt(most);
    }

    private int item() {
        return below(random.nextInt(3) == 0 ? 62 : 12);
    }

    private int script() {
        return below(random.nextInt(4) == 0 ? 11 : 4);
    }

    private void same(String call, long got, long want) {
        calls++;
        Expect.same(name + call, got, want);
    }

    private void any(int texts) {
        int pick = random.nextInt(100 + texts);
        if (pick < 12) {
            originals();
        } else if (pick < 50) {
            migrations();
        } else if (pick < 65) {
            batches();
        } else if (pick < 75) {
            checks();
        } else if (pick < 100) {
            looks();
        } else {
            text();
        }
    }

    private void text() {
        String told = random.nextInt(3) > 0 ? SCRIPTS[random.nextInt(SCRIPTS.length)] : anyText();
        if (calls + told.length() + 2 > CALLS) {
            return;
        }
        for (int i = 0; i < told.length(); i++) {
            int c = told.charAt(i) + (random.nextInt(9) == 0 ? 256 * (random.nextInt(9) - 4) : 0);
            x.sign(c);
            model.sign(c);
            calls++;
        }
        same("read() of " + told, read(), modelRead());
        same("place() of " + told, x.place(), model.place());
    }

    private String anyText() {
        StringBuilder told = new StringBuilder();
        int commands = random.nextInt(20) == 0 ? 38 + random.nextInt(5) : random.nextInt(9);
        for (int n = 0; n < commands; n++) {
            int number = random.nextInt(random.nextInt(9) == 0 ? 300 : 12);
            told.append(n > 0 ? " " : "").append("rwaxsgikjzebfh".charAt(random.nextInt(14))).append(number);
        }
        if (random.nextInt(4) == 0 && told.length() > 0) {
            told.setCharAt(random.nextInt(told.length()), "q 0z9".charAt(random.nextInt(5)));
        }
        if (random.nextInt(8) == 0) {
            told.append("q 0z9".charAt(random.nextInt(5)));
        }
        return told.toString();
    }

    private int read() {
        try {
            return x.read();
        } catch (IllegalStateException e) {
            return -99;
        }
    }

    private int modelRead() {
        try {
            return model.read();
        } catch (IllegalStateException e) {
            return -99;
        }
    }

    private void originals() {
        int bytes = random.nextInt(12) == 0 ? random.nextInt(50) : random.nextInt(4);
        for (int n = 0; n < bytes; n++) {
            int b = random.nextInt(3) == 0 ? random.nextInt() : random.nextInt(6);
            x.octet(b);
            model.octet(b);
            calls++;
        }
        same("original()", x.original(), model.original());
    }

    private void migrations() {
        int item = item();
        int script = script();
        int pick = random.nextInt(10);
        if (pick < 5) {
            same("migrate(" + item + ", " + script + ")", x.migrate(item, script), model.migrate(item, script));
        } else if (pick < 8) {
            same("goesOn(" + item + ", " + script + ")", x.goesOn(item, script), model.goesOn(item, script));
        } else {
            int next = random.nextInt(5) == 0 ? -1 : script();
            same("chain(" + script + ", " + next + ")", x.chain(script, next), model.chain(script, next));
        }
        same("what()", x.what(), model.what());
    }

    private void batches() {
        int pick = random.nextInt(10);
        if (pick < 3) {
            int script = script();
            same("batch(" + script + ")", x.batch(script), model.batch(script));
        } else if (pick < 6) {
            same("undo()", x.undo(), model.undo());
        } else {
            int item = item();
            same("drop(" + item + ")", x.drop(item), model.drop(item));
        }
        same("what()", x.what(), model.what());
    }

    private void checks() {
        int script = script();
        boolean behind = random.nextBoolean();
        int kind = below(4);
        int value = below(random.nextInt(6) == 0 ? 256 : 4);
        String call = "check(" + script + ", " + behind + ", " + kind + ", " + value + ")";
        same(call, x.check(script, behind, kind, value), model.check(script, behind, kind, value));
    }

    private void looks() {
        same("failed()", x.failed(), model.failed());
        same("counted()", x.counted(), model.counted());
        same("place()", x.place(), model.place());
        int i = below(random.nextInt(4) == 0 ? 42 : 5);
        same("tried(" + i + ")", x.tried(i), model.tried(i));
        int item = item();
        int what = below(5);
        same("about(" + item + ", " + what + ")", x.about(item, what), model.about(item, what));
        same("at(" + item + ", " + i + ")", at(item, i), modelAt(item, i));
    }

    private int at(int item, int i) {
        try {
            return x.at(item, i);
        } catch (ArrayIndexOutOfBoundsException e) {
            return -99;
        }
    }

    private int modelAt(int item, int i) {
        try {
            return model.at(item, i);
        } catch (ArrayIndexOutOfBoundsException e) {
            return -99;
        }
    }
}
