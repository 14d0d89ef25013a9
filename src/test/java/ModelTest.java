import java.util.Arrays;
import java.util.Map;
import java.util.TreeMap;

/** Long runs of mixed calls: NameRules answers each as PlainBook does. */
public final class ModelTest {
    private static final int RUNS = 1500;
    private static final int CALLS = 512;
    // Three pieces, a wrong character, and name() or its like.
    private static final int LONGEST_STEP = 26;

    private static final String[] PIECES = {"a", "b", "ab", "n", "n1", "a/", "b/", "a#", "#", "/", "s", "s/", "ss",
        "A", "9", "abcd", "q:", "a:", "b:", "ab:", "<", ">", "abcdefgh", "zz", "c", "d"};
    // Names of these alone begin with one another, and most of them can be shorts.
    private static final String[] NESTED_PIECES = {"x", "y", "x", "xy", "x:", "xx:"};
    private static final String[] OBSERVERS = {"space", "best", "propose", "print", "used", "meaning", "now", "was"};
    private static final String[] PAIRS = {"apart", "document", "near", "told"};

    private final NameRules book = new NameRules();
    private final PlainBook plain = new PlainBook();
    private final Map<String, Integer> seen;
    private final int style;
    private long seed;
    private int calls = 0;

    private ModelTest(int run, Map<String, Integer> seen) {
        this.seen = seen;
        style = run % 5;
        seed = run * 7919L + 17;
    }

    public static void main(String[] args) {
        Map<String, Integer> seen = new TreeMap<>();
        for (int run = 0; run < RUNS; run++) {
            new ModelTest(run, seen).run();
        }
        for (String want : new String[] {"clash 1", "clash 2", "clash 3", "clash 4", "clash 5", "60 names", "40 rows",
            "20 renames", "an unknown name", "a row by row() full", "rename() full"}) {
            Check.same("runs that reach " + want, String.valueOf(seen.getOrDefault(want, 0) > 0), "true");
        }
        Check.finish();
    }

    private void run() {
        if (style == 1) {
            manyNames();
        }
        while (calls < CALLS - LONGEST_STEP) {
            step();
        }
        note("60 names", plain.count(0) == 60);
        note("40 rows", plain.count(3) == 40);
        note("20 renames", plain.count(4) == 20);
    }

    /** 60 names in a space, so that rows and names come to their limits. */
    private void manyNames() {
        write("s");
        same("name");
        write("t");
        same("name");
        same("prefix", 0, 1);
        for (int i = 0; i < 58; i++) {
            write("s" + (char) ('A' + i));
            same("name");
        }
        for (int i = 0; i < 41; i++) {
            note("a row by row() full", same("row", 59 - i, pick(60), pick(60)).startsWith("throws.Uns"));
        }
    }

    private void step() {
        int name = name();
        switch (pick(style == 2 ? 18 : 15)) {
            case 0: case 1: case 2:
                type();
                break;
            case 3:
                same("prefix", name, name());
                break;
            case 4:
                same("row", name, name(), name());
                break;
            case 5:
                same("use", name);
                break;
            case 6:
                same("alias", name, name());
                break;
            case 7:
                same("join", name, name(), pick(20) == 0 ? number() : pick(2));
                break;
            case 8: case 15: case 16:
                note("rename() full", same("rename", name, name()).startsWith("throws.Uns"));
                break;
            case 9:
                same(PAIRS[pick(PAIRS.length)], name, pick(20) == 0 ? number() : pick(4));
                break;
            case 10:
                note("an unknown name", same("unknown", pick(20) == 0 ? number() : pick(3)).matches("[0-9]+"));
                break;
            case 11:
                same("count", pick(20) == 0 ? number() : pick(8));
                break;
            case 12:
                note("clash " + same("clash", 0), true);
                same("clash", pick(20) == 0 ? number() : 1 + pick(2));
                break;
            default:
                same(OBSERVERS[pick(OBSERVERS.length)], name);
                same("letter", pick(20) == 0 ? number() : pick(6));
        }
    }

    private void type() {
        int pieces = pick(4);
        for (int i = 0; i < pieces; i++) {
            write(pieceOf(style == 4 ? NESTED_PIECES : PIECES));
        }
        if (pick(30) == 0) {
            same("type", number());
        }
        int end = pick(12);
        same(end == 0 ? "clear" : end < 8 ? "name" : "expand");
    }

    private String pieceOf(String[] pieces) {
        return pieces[pick(pieces.length)];
    }

    private void write(String text) {
        for (char c : text.toCharArray()) {
            same("type", c);
        }
    }

    private String same(String method, int... arguments) {
        calls++;
        String got = Check.answer(book, method, arguments);
        Check.same("call " + calls + " (seed " + seed + "), " + method + Arrays.toString(arguments), got,
                Check.answer(plain, method, arguments));
        return got;
    }

    private void note(String what, boolean reached) {
        if (reached) {
            seen.merge(what, 1, Integer::sum);
        }
    }

    /** Mostly a name's number, of a few in some runs so that they meet often. */
    private int name() {
        if (pick(40) == 0) {
            return number();
        }
        int names = plain.count(0);
        return pick(Math.max(1, style == 3 ? Math.min(names, 12) : names));
    }

    private int number() {
        int[] numbers = {-1, -2, 0, 2, 3, 7, 32, 33, 59, 60, 126, 127, Integer.MAX_VALUE, Integer.MIN_VALUE};
        return numbers[pick(numbers.length)];
    }

    private int pick(int bound) {
        seed = seed * 6364136223846793005L + 1442695040888963407L;
        return (int) ((seed >>> 33) % bound);
    }
}
