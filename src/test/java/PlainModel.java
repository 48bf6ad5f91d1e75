import java.util.ArrayDeque;
import java.util.ArrayList;
import java.util.Deque;
import java.util.HashSet;
import java.util.List;
import java.util.Set;

/** The document once more, written for plainness alone, to compare long runs of calls with. */
final class PlainModel {
    private record Command(char letter, int n) {
    }

    private record Check(int kind, int value) {
    }

    private static final class Script {
        List<Command> commands = new ArrayList<>();
        List<Check> before = new ArrayList<>();
        List<Check> behind = new ArrayList<>();
        Script next = null;
    }

    private static final class Item {
        List<Integer> bytes;
        Item from;
        Script by;
        boolean gone;
    }

    private final int steps;
    private final int cells;
    private String text = "";
    private int place = -1;
    private List<Integer> collected = new ArrayList<>();
    private final List<Script> scripts = new ArrayList<>();
    private final List<Item> items = new ArrayList<>();
    private final Deque<List<Item>> batches = new ArrayDeque<>();
    private int what = 0;
    private int failed = -1;
    private long counted = 0;
    private List<Integer> out = new ArrayList<>();

    PlainModel(int steps, int cells) {
        this.steps = steps < 0 ? 0 : steps > 2000 ? 2000 : steps;
        this.cells = cells < 0 ? 0 : cells > 32 ? 32 : cells;
    }

    void sign(int c) {
        if (text.length() < 200) {
            text += (char) Math.floorMod(c, 256);
        }
    }

    int read() {
        Script s = new Script();
        String told = text;
        text = "";
        place = wrong(told, s);
        if (place >= 0) {
            throw new IllegalStateException();
        }
        if (scripts.size() == 10) {
            return -4;
        }
        scripts.add(s);
        return scripts.size() - 1;
    }

    /** Sign by sign; the end is looked at as a sign of its own. */
    private static int wrong(String told, Script s) {
        char letter = 0;
        String digits = "";
        for (int i = 0; i <= told.length(); i++) {
            boolean end = i == told.length();
            char c = end ? 0 : told.charAt(i);
            if (letter == 0) {
                if (end || "abefghijkrswxz".indexOf(c) < 0 || s.commands.size() == 40) {
                    return i;
                }
                letter = c;
            } else if (!end && c >= '0' && c <= '9' && digits.length() < 3) {
                digits += c;
                if (Integer.parseInt(digits) > 255) {
                    return i - digits.length() + 1;
                }
            } else if (digits.isEmpty() || !end && c != ' ') {
                return i;
            } else {
                s.commands.add(new Command(letter, Integer.parseInt(digits)));
                letter = 0;
                digits = "";
                if (end) {
                    return -1;
                }
            }
        }
        return told.length();
    }

    int place() {
        return place;
    }

    void octet(int b) {
        if (collected.size() < 40) {
            collected.add(Math.floorMod(b, 256));
        }
    }

    int original() {
        if (items.size() == 60) {
            return -4;
        }
        Item item = new Item();
        item.bytes = collected;
        collected = new ArrayList<>();
        items.add(item);
        return items.size() - 1;
    }

    int check(int script, boolean behind, int kind, int value) {
        if (!isScript(script)) {
            return -1;
        }
        if (kind < 0 || kind > 3 || value < 0 || value > 255) {
            return -2;
        }
        List<Check> checks = behind ? scripts.get(script).behind : scripts.get(script).before;
        if (checks.size() == 4) {
            return -4;
        }
        checks.add(new Check(kind, value));
        return checks.size();
    }

    int migrate(int item, int script) {
        if (!isItem(item) || items.get(item).gone || !isScript(script)) {
            return -1;
        }
        int got = derive(items.get(item), scripts.get(script));
        what = Math.min(got, 0);
        return got;
    }

    private int derive(Item item, Script script) {
        for (Item other : items) {
            if (!other.gone && other.from == item && other.by == script) {
                return -11;
            }
        }
        if (!hold(script.before, item.bytes)) {
            return -12;
        }
        int failure = run(script.commands, item.bytes);
        if (failure > 0) {
            return -12 - failure;
        }
        if (!hold(script.behind, out)) {
            return -17;
        }
        if (items.size() == 60) {
            return -4;
        }
        Item derived = new Item();
        derived.bytes = new ArrayList<>(out);
        derived.from = item;
        derived.by = script;
        items.add(derived);
        return items.size() - 1;
    }

    private static boolean hold(List<Check> checks, List<Integer> bytes) {
        for (Check c : checks) {
            int sum = bytes.stream().mapToInt(b -> b).sum() % 256;
            boolean holds = c.kind == 0 && bytes.size() >= c.value
                    || c.kind == 1 && bytes.size() <= c.value
                    || c.kind == 2 && !bytes.isEmpty() && bytes.get(0) == c.value
                    || c.kind == 3 && sum == c.value;
            if (!holds) {
                return false;
            }
        }
        return true;
    }

    private int run(List<Command> commands, List<Integer> bytes) {
        out = new ArrayList<>();
        failed = -1;
        int a = 0;
        int at = 0;
        int[] m = new int[cells];
        int left = steps;
        int c = 0;
        while (c < commands.size()) {
            failed = c;
            if (left-- == 0) {
                return 4;
            }
            counted++;
            char letter = commands.get(c).letter;
            int n = commands.get(c).n;
            c++;
            if (letter == 'r') {
                if (at + n >= bytes.size()) {
                    return 2;
                }
                a = bytes.get(at + n);
            } else if (letter == 'w') {
                for (int k = 0; k < n; k++) {
                    if (out.size() == 40) {
                        return 3;
                    }
                    out.add(a);
                }
            } else if (letter == 's' || letter == 'g') {
                if (n >= cells) {
                    return 3;
                }
                if (letter == 's') {
                    m[n] = a;
                } else {
                    a = m[n];
                }
            } else if (letter == 'f' && a != n) {
                return 1;
            } else if (letter == 'a') {
                a = (a + n) % 256;
            } else if (letter == 'x') {
                a ^= n;
            } else if (letter == 'i') {
                at = at + n > 1000000 ? 1000000 : at + n;
            } else if (letter == 'k') {
                at = n;
            } else if (letter == 'h') {
                break;
            } else if (letter == 'b' || letter == 'j' && a != 0 || letter == 'z' && a == 0
                    || letter == 'e' && at >= bytes.size()) {
                c = n;
            }
        }
        failed = -1;
        return 0;
    }

    int chain(int script, int next) {
        if (!isScript(script) || next != -1 && !isScript(next)) {
            return -1;
        }
        Set<Script> behind = new HashSet<>();
        for (Script s = next == -1 ? null : scripts.get(next); s != null && behind.add(s); s = s.next) {
            if (s == scripts.get(script)) {
                return -3;
            }
        }
        scripts.get(script).next = next == -1 ? null : scripts.get(next);
        return 1;
    }

    int goesOn(int item, int script) {
        if (!isItem(item) || items.get(item).gone || !isScript(script)) {
            return -1;
        }
        int before = items.size();
        Item from = items.get(item);
        what = 0;
        for (Script s = scripts.get(script); s != null; s = s.next) {
            int got = derive(from, s);
            if (got < 0) {
                what = got;
                break;
            }
            from = items.get(got);
        }
        return items.size() - before;
    }

    int what() {
        return what;
    }

    int failed() {
        return failed;
    }

    long counted() {
        return counted;
    }

    int batch(int script) {
        if (!isScript(script)) {
            return -1;
        }
        List<Item> came = new ArrayList<>();
        for (Item item : new ArrayList<>(items)) {
            if (item.from == null) {
                int got = derive(item, scripts.get(script));
                if (got >= 0) {
                    came.add(items.get(got));
                }
            }
        }
        if (!came.isEmpty()) {
            batches.push(came);
        }
        return came.size();
    }

    int undo() {
        if (batches.isEmpty()) {
            return -1;
        }
        List<Item> came = batches.pop();
        int went = 0;
        for (int k = came.size() - 1; k >= 0; k--) {
            if (!came.get(k).gone && !hasDerived(came.get(k))) {
                came.get(k).gone = true;
                went++;
            }
        }
        return went;
    }

    int drop(int item) {
        if (!isItem(item) || items.get(item).gone) {
            return -1;
        }
        if (items.get(item).from == null || hasDerived(items.get(item))) {
            return -3;
        }
        items.get(item).gone = true;
        return 1;
    }

    int about(int item, int what) {
        if (!isItem(item) || what < 0 || what > 4) {
            return -1;
        }
        Item told = items.get(item);
        Item root = told;
        while (root.from != null) {
            root = root.from;
        }
        return new int[] {told.bytes.size(), items.indexOf(told.from), scripts.indexOf(told.by),
            told.gone ? 1 : 0, items.indexOf(root)}[what];
    }

    int at(int item, int i) {
        if (!isItem(item)) {
            return -1;
        }
        if (i < 0 || i >= items.get(item).bytes.size()) {
            throw new ArrayIndexOutOfBoundsException();
        }
        return items.get(item).bytes.get(i);
    }

    int tried(int i) {
        return i < 0 || i >= out.size() ? -1 : out.get(i);
    }

    private boolean hasDerived(Item item) {
        return items.stream().anyMatch(other -> !other.gone && other.from == item);
    }

    private boolean isItem(int item) {
        return item >= 0 && item < items.size();
    }

    private boolean isScript(int script) {
        return script >= 0 && script < scripts.size();
    }
}
