import java.util.Arrays;

/**
 * Migrations: scripts over bytes run by counted steps within a memory, checks before and behind,
 * what is derived from what, chains, batches that are undone, originals kept.
 */
public final class MigrateSteps {
    public static final int NONE = -1;
    public static final int RANGE = -2;
    public static final int STATE = -3;
    public static final int FULL = -4;

    private static final int MOST_STEPS = 2000;
    private static final int MOST_CELLS = 32;
    private static final int MOST_SIGNS = 200;
    private static final int MOST_COMMANDS = 40;
    private static final int MOST_DIGITS = 3;
    private static final int MOST_BYTES = 40;
    private static final int MOST_SCRIPTS = 10;
    private static final int MOST_ITEMS = 60;
    private static final int MOST_CHECKS = 4;
    private static final int MOST_POINTER = 1000000;
    private static final int LOW_BITS = 255;
    private static final int BETWEEN = 32;
    private static final String LETTERS = "rwaxsgikjzebfh";

    private static final int AGAINST_NOTHING = 0;
    private static final int AGAINST_DERIVED = -11;
    private static final int AGAINST_BEFORE = -12;
    private static final int AGAINST_BEHIND = -17;

    private static final int FAILS_NOT = 0;
    private static final int FAILS_WANTED = 1;
    private static final int FAILS_BYTES = 2;
    private static final int FAILS_MEMORY = 3;
    private static final int FAILS_STEPS = 4;

    private static final int KIND_LEAST = 0;
    private static final int KIND_MOST = 1;
    private static final int KIND_FIRST = 2;
    private static final int KIND_SUM = 3;

    private final ScriptText text = new ScriptText();
    private final ByteRow collected = new ByteRow(new int[MOST_BYTES], 0);
    private final Script[] scripts = new Script[MOST_SCRIPTS];
    private final Item[] items = new Item[MOST_ITEMS];
    private final Runner runner;
    private int scriptCount = 0;
    private int itemCount = 0;
    private int openBatches = 0;
    private int wrongAt = NONE;
    private int metLast = AGAINST_NOTHING;

    public MigrateSteps(int steps, int cells) {
        runner = new Runner(
                Math.max(0, Math.min(steps, MOST_STEPS)),
                new int[Math.max(0, Math.min(cells, MOST_CELLS))]);
    }

    public void sign(int c) {
        text.add(c & LOW_BITS);
    }

    public int read() throws IllegalStateException {
        wrongAt = text.parse();
        text.clear();
        if (wrongAt != NONE) {
            throw new IllegalStateException("the script is wrong");
        }
        if (scriptCount >= MOST_SCRIPTS) {
            return FULL;
        }
        scripts[scriptCount] = text.parsed();
        scriptCount++;
        return scriptCount - 1;
    }

    public int place() {
        return wrongAt;
    }

    public void octet(int b) {
        collected.add(b & LOW_BITS);
    }

    public int original() {
        if (itemCount >= MOST_ITEMS) {
            return FULL;
        }
        int number = keep(new Item(collected.copy(), NONE, NONE, itemCount));
        collected.clear();
        return number;
    }

    public int check(int script, boolean behind, int kind, int value) {
        Script checked = scriptOf(script);
        if (checked == null) {
            return NONE;
        }
        if (kind < KIND_LEAST || kind > KIND_SUM || value < 0 || value > LOW_BITS) {
            return RANGE;
        }
        return behind ? checked.behind.add(kind, value) : checked.before.add(kind, value);
    }

    public int migrate(int item, int script) {
        if (liveItem(item) == null || scriptOf(script) == null) {
            return NONE;
        }
        int came = derive(item, script);
        metLast = against(came);
        return came;
    }

    public int chain(int script, int next) {
        Script first = scriptOf(script);
        if (first == null || (next != NONE && scriptOf(next) == null)) {
            return NONE;
        }
        if (comesTo(next, script)) {
            return STATE;
        }
        first.next = next;
        return 1;
    }

    public int goesOn(int item, int script) {
        if (liveItem(item) == null || scriptOf(script) == null) {
            return NONE;
        }
        int came = 0;
        int from = item;
        int by = script;
        // no chain has a ring, so it ends within as many scripts as there can be
        for (int n = 0; n < MOST_SCRIPTS && by != NONE; n++) {
            from = derive(from, by);
            metLast = against(from);
            if (from < 0) {
                break;
            }
            came++;
            by = nextOf(by);
        }
        return came;
    }

    public int what() {
        return metLast;
    }

    public int failed() {
        return runner.failedAt;
    }

    public long counted() {
        return runner.allSteps;
    }

    public int batch(int script) {
        if (scriptOf(script) == null) {
            return NONE;
        }
        int came = 0;
        int before = itemCount;
        for (int n = 0; n < before; n++) {
            if (isOriginal(n) && joinBatch(derive(n, script))) {
                came++;
            }
        }
        if (came > 0) {
            openBatches++;
        }
        return came;
    }

    public int undo() {
        if (openBatches == 0) {
            return NONE;
        }
        openBatches--;
        int went = 0;
        for (int n = itemCount - 1; n >= 0; n--) {
            if (leaveBatch(n) && !hasDerived(n)) {
                went += dismiss(n);
            }
        }
        return went;
    }

    public int drop(int item) {
        if (liveItem(item) == null) {
            return NONE;
        }
        if (isOriginal(item) || hasDerived(item)) {
            return STATE;
        }
        return dismiss(item);
    }

    public int about(int item, int what) {
        Item told = itemOf(item);
        if (told == null) {
            return NONE;
        }
        switch (what) {
            case 0:
                return told.bytes.size;
            case 1:
                return told.from;
            case 2:
                return told.by;
            case 3:
                return told.gone ? 1 : 0;
            case 4:
                return told.root;
            default:
                return NONE;
        }
    }

    public int at(int item, int i) throws ArrayIndexOutOfBoundsException {
        Item told = itemOf(item);
        if (told == null) {
            return NONE;
        }
        int found = told.bytes.byteAt(i);
        if (found == NONE) {
            throw new ArrayIndexOutOfBoundsException("the item has no such byte");
        }
        return found;
    }

    public int tried(int i) {
        return runner.out.byteAt(i);
    }

    private Script scriptOf(int number) {
        return number >= 0 && number < scriptCount ? scripts[number] : null;
    }

    private Item itemOf(int number) {
        return number >= 0 && number < itemCount ? items[number] : null;
    }

    private Item liveItem(int number) {
        Item item = itemOf(number);
        return item != null && !item.gone ? item : null;
    }

    private boolean isOriginal(int number) {
        Item item = itemOf(number);
        return item != null && item.from == NONE;
    }

    private boolean hasDerived(int number) {
        for (int n = 0; n < itemCount; n++) {
            Item item = liveItem(n);
            if (item != null && item.from == number) {
                return true;
            }
        }
        return false;
    }

    private boolean hasDerivedBy(int number, int script) {
        for (int n = 0; n < itemCount; n++) {
            Item item = liveItem(n);
            if (item != null && item.from == number && item.by == script) {
                return true;
            }
        }
        return false;
    }

    /** The number of the item that came, or what is against it. */
    private int derive(int number, int script) {
        Item source = liveItem(number);
        Script by = scriptOf(script);
        if (source == null || by == null) {
            return NONE;
        }
        if (hasDerivedBy(number, script)) {
            return AGAINST_DERIVED;
        }
        if (!by.before.hold(source.bytes)) {
            return AGAINST_BEFORE;
        }
        int failure = runner.run(by, source.bytes);
        if (failure != FAILS_NOT) {
            return AGAINST_BEFORE - failure;
        }
        if (!by.behind.hold(runner.out)) {
            return AGAINST_BEHIND;
        }
        if (itemCount >= MOST_ITEMS) {
            return FULL;
        }
        return keep(new Item(runner.out.copy(), number, script, source.root));
    }

    private static int against(int came) {
        return came >= 0 ? AGAINST_NOTHING : came;
    }

    private int keep(Item item) {
        if (itemCount >= MOST_ITEMS) {
            return FULL;
        }
        items[itemCount] = item;
        itemCount++;
        return itemCount - 1;
    }

    private int dismiss(int number) {
        Item item = liveItem(number);
        if (item == null) {
            return 0;
        }
        item.gone = true;
        return 1;
    }

    private int nextOf(int script) {
        Script found = scriptOf(script);
        return found == null ? NONE : found.next;
    }

    private boolean comesTo(int start, int wanted) {
        int by = start;
        for (int n = 0; n < MOST_SCRIPTS && by != NONE; n++) {
            if (by == wanted) {
                return true;
            }
            by = nextOf(by);
        }
        return false;
    }

    private boolean joinBatch(int number) {
        Item item = itemOf(number);
        if (item == null) {
            return false;
        }
        item.batch = openBatches;
        return true;
    }

    /** What stays of an undone batch leaves it, for the next batch bears the same number. */
    private boolean leaveBatch(int number) {
        Item item = itemOf(number);
        if (item == null || item.batch != openBatches) {
            return false;
        }
        item.batch = NONE;
        return true;
    }

    /** Bytes, 0 .. 255, as many as the array has room for. */
    private static final class ByteRow {
        private final int[] bytes;
        private int size;

        ByteRow(int[] bytes, int size) {
            this.bytes = bytes;
            this.size = size;
        }

        boolean add(int b) {
            if (size < 0 || size >= bytes.length) {
                return false;
            }
            bytes[size] = b;
            size++;
            return true;
        }

        void clear() {
            size = 0;
        }

        int byteAt(int i) {
            return i >= 0 && i < size && i < bytes.length ? bytes[i] : NONE;
        }

        int sum() {
            int all = 0;
            for (int i = 0; i < size; i++) {
                all += byteAt(i);
            }
            return all & LOW_BITS;
        }

        ByteRow copy() {
            int kept = Math.max(0, Math.min(size, bytes.length));
            return new ByteRow(Arrays.copyOf(bytes, kept), kept);
        }
    }

    /** An original, which has no from and no by, or what was derived. */
    private static final class Item {
        private final ByteRow bytes;
        private final int from;
        private final int by;
        private final int root;
        private int batch = NONE;
        private boolean gone = false;

        Item(ByteRow bytes, int from, int by, int root) {
            this.bytes = bytes;
            this.from = from;
            this.by = by;
            this.root = root;
        }
    }

    /** The checks of a script on one of its two sides. */
    private static final class Checks {
        private final int[] kinds = new int[MOST_CHECKS];
        private final int[] values = new int[MOST_CHECKS];
        private int count = 0;

        int add(int kind, int value) {
            if (count >= MOST_CHECKS) {
                return FULL;
            }
            kinds[count] = kind;
            values[count] = value;
            count++;
            return count;
        }

        boolean hold(ByteRow row) {
            for (int n = 0; n < count && n < MOST_CHECKS; n++) {
                if (!holds(kinds[n], values[n], row)) {
                    return false;
                }
            }
            return true;
        }

        private static boolean holds(int kind, int value, ByteRow row) {
            switch (kind) {
                case KIND_LEAST:
                    return row.size >= value;
                case KIND_MOST:
                    return row.size <= value;
                case KIND_FIRST:
                    // no value is NONE, so an empty row never holds
                    return row.byteAt(0) == value;
                default:
                    return row.sum() == value;
            }
        }
    }

    private static final class Script {
        private final int[] letters;
        private final int[] numbers;
        private final Checks before = new Checks();
        private final Checks behind = new Checks();
        private int next = NONE;

        Script(int[] letters, int[] numbers) {
            this.letters = letters;
            this.numbers = numbers;
        }

        int size() {
            return Math.min(letters.length, numbers.length);
        }
    }

    /** The signs that are told, and the commands that were found in them. */
    private static final class ScriptText {
        private final int[] signs = new int[MOST_SIGNS];
        private final int[] letters = new int[MOST_COMMANDS];
        private final int[] numbers = new int[MOST_COMMANDS];
        private int size = 0;
        private int commands = 0;

        void add(int c) {
            if (size < MOST_SIGNS) {
                signs[size] = c;
                size++;
            }
        }

        void clear() {
            size = 0;
        }

        Script parsed() {
            int kept = Math.max(0, Math.min(commands, MOST_COMMANDS));
            return new Script(Arrays.copyOf(letters, kept), Arrays.copyOf(numbers, kept));
        }

        /** Where the text is wrong, or NONE. */
        int parse() {
            commands = 0;
            int i = 0;
            while (commands < MOST_COMMANDS) {
                int letter = signAt(i);
                if (!isLetter(letter)) {
                    return i;
                }
                int digits = digitsFrom(i + 1);
                int number = numberFrom(i + 1, digits);
                if (digits == 0 || number > LOW_BITS) {
                    return i + 1;
                }
                letters[commands] = letter;
                numbers[commands] = number;
                commands++;
                i += 1 + digits;
                if (i >= size) {
                    return NONE;
                }
                if (signAt(i) != BETWEEN) {
                    return i;
                }
                i++;
            }
            return i;
        }

        private int signAt(int i) {
            return i >= 0 && i < size && i < MOST_SIGNS ? signs[i] : NONE;
        }

        private int digitsFrom(int i) {
            int digits = 0;
            while (digits < MOST_DIGITS && isDigit(signAt(i + digits))) {
                digits++;
            }
            return digits;
        }

        private int numberFrom(int i, int digits) {
            int number = 0;
            for (int n = 0; n < digits; n++) {
                number = number * 10 + (signAt(i + n) - '0');
            }
            return number;
        }

        private static boolean isLetter(int c) {
            return c >= 0 && LETTERS.indexOf((char) c) >= 0;
        }

        private static boolean isDigit(int c) {
            return c >= '0' && c <= '9';
        }
    }

    /** Runs scripts, and keeps of the latest run what it put out and where it failed. */
    private static final class Runner {
        private final int steps;
        private final int[] cells;
        private final ByteRow out = new ByteRow(new int[MOST_BYTES], 0);
        private int accumulator = 0;
        private int pointer = 0;
        private int next = 0;
        private int failure = FAILS_NOT;
        private int failedAt = NONE;
        private long allSteps = 0;

        Runner(int steps, int[] cells) {
            this.steps = steps;
            this.cells = cells;
        }

        /** By what the run failed, or FAILS_NOT. */
        int run(Script script, ByteRow over) {
            begin();
            int end = script.size();
            int done = 0;
            while (done < steps && next >= 0 && next < end && failure == FAILS_NOT) {
                int here = next;
                next++;
                done++;
                step(script.letters[here], script.numbers[here], over);
                if (failure != FAILS_NOT) {
                    failedAt = here;
                }
            }
            allSteps += done;
            if (failure == FAILS_NOT && next < end) {
                failure = FAILS_STEPS;
                failedAt = next;
            }
            return failure;
        }

        private void begin() {
            Arrays.fill(cells, 0);
            out.clear();
            accumulator = 0;
            pointer = 0;
            next = 0;
            failure = FAILS_NOT;
            failedAt = NONE;
        }

        private void step(int letter, int number, ByteRow over) {
            switch (letter) {
                case 'r':
                    fetch(over.byteAt(pointer + number));
                    break;
                case 'w':
                    putOut(number);
                    break;
                case 's':
                    store(number);
                    break;
                case 'g':
                    recall(number);
                    break;
                case 'e':
                    jumpIf(pointer >= over.size, number);
                    break;
                default:
                    stepWithin(letter, number);
                    break;
            }
        }

        /** The commands that need neither the bytes nor the memory. */
        private void stepWithin(int letter, int number) {
            switch (letter) {
                case 'a':
                    accumulator = (accumulator + number) & LOW_BITS;
                    break;
                case 'x':
                    accumulator = accumulator ^ number;
                    break;
                case 'i':
                    pointer = Math.min(pointer + number, MOST_POINTER);
                    break;
                case 'k':
                    pointer = number;
                    break;
                case 'j':
                    jumpIf(accumulator != 0, number);
                    break;
                case 'z':
                    jumpIf(accumulator == 0, number);
                    break;
                case 'b':
                    jumpIf(true, number);
                    break;
                case 'f':
                    failIf(accumulator != number, FAILS_WANTED);
                    break;
                default:
                    // h alone is left: it ends like a jump behind the last command
                    jumpIf(true, MOST_COMMANDS);
                    break;
            }
        }

        private void fetch(int found) {
            if (found == NONE) {
                failure = FAILS_BYTES;
            } else {
                accumulator = found;
            }
        }

        private void putOut(int times) {
            boolean fits = true;
            for (int n = 0; n < times && fits; n++) {
                fits = out.add(accumulator);
            }
            failIf(!fits, FAILS_MEMORY);
        }

        private void store(int cell) {
            if (cell < 0 || cell >= cells.length) {
                failure = FAILS_MEMORY;
            } else {
                cells[cell] = accumulator;
            }
        }

        private void recall(int cell) {
            if (cell < 0 || cell >= cells.length) {
                failure = FAILS_MEMORY;
            } else {
                accumulator = cells[cell];
            }
        }

        private void jumpIf(boolean holds, int command) {
            if (holds) {
                next = command;
            }
        }

        private void failIf(boolean holds, int by) {
            if (holds) {
                failure = by;
            }
        }
    }
}
