import java.lang.reflect.Method;
import java.lang.reflect.Modifier;
import java.util.Arrays;
import java.util.List;
import java.util.Set;
import java.util.TreeSet;

/**
 * What the document says of all methods at once: which exception is thrown, that a refused call
 * changes nothing, and how many calls an object is used for. The sentence stands above its test.
 */
public final class RefusalsTest {
    private static final List<String> CHANGERS = List.of("type", "clear", "name", "expand", "use", "join", "print", "propose");
    private static final List<String> CLASHERS = List.of("prefix", "row", "alias", "rename");
    private static final int[] NUMBERS = {-1, 0, 1, 2, 3, 4, 5, 6, 7, 8, 9, Integer.MAX_VALUE, Integer.MIN_VALUE};
    private static final int[] FEW_NUMBERS = {-1, 0, 1, 2, 5, 9};
    private static final int[] LIMITS = {-1, 0, 1, 2, 23, 24, 39, 40, 59, 60, 61, 32, 33, 126, 127, 65536 + 'a',
        Integer.MAX_VALUE, Integer.MIN_VALUE};
    private static final int[] FEW_LIMITS = {-1, 0, 1, 59, 60, Integer.MAX_VALUE, Integer.MIN_VALUE};

    public static void main(String[] args) {
        whatThrowsOrClashesChangesNothing();
        whatThrowsInAFullBookChangesNothing();
        theOneNamedFirst();
        onlyWhatIsNamed();
        lastOfFiveHundredAndTwelveCalls();
        lastCallOfAFullBook();
        Check.finish();
    }

    /** A book in which there is something of each kind: on the tape, printed, a clash of kind 5. */
    private static Run busy() {
        Run run = Run.of("s", "t", "sa", "sb", "sc", "sd", "o", "sa/", "u");
        run.then("prefix", 0, 1).then("prefix", 7, 8);
        run.then("row", 2, 3, 6).then("row", 3, 2, 2).then("use", 4).then("use", 4).then("use", 2);
        run.then("alias", 2, 3).then("alias", 3, 4).then("alias", 5, 4).then("rename", 6, 8).then("rename", 8, 6);
        run.then("rename", 2, 5).then("print", 3).type("u:x");
        return run;
    }

    /** 60 names, 40 rows, 20 renames, 24 characters on the tape. */
    private static Run full() {
        Run run = Run.of("s", "t", "o").then("prefix", 0, 1);
        for (int i = 0; i < 57; i++) {
            run.names("s" + (char) ('A' + i));
        }
        for (int i = 0; i < 40; i++) {
            run.then("row", 3 + i, 0, 2);
        }
        for (int i = 0; i < 20; i++) {
            run.then("rename", 1, 59);
        }
        return run.then("use", 59).then("alias", 58, 59).then("alias", 3, 3).then("print", 59).type("t".repeat(24));
    }

    // "What throws, or tells of a clash, changes nothing (but what clash() tells)."
    private static void whatThrowsOrClashesChangesNothing() {
        Run run = busy();
        Set<String> seen = new TreeSet<>();
        for (Method method : face()) {
            for (int[] arguments : argumentsOf(method, method.getParameterCount() == 3 ? FEW_NUMBERS : NUMBERS)) {
                notChanged(run, method.getName(), arguments, seen);
            }
        }
        Check.same("what was met", seen.toString(), "[clash 1, clash 2, clash 3, clash 4, clash 5, looks, "
                + "throws.IllegalArgumentException, throws.IllegalStateException, throws.IndexOutOfBoundsException]");
    }

    private static void notChanged(Run run, String method, int[] arguments, Set<String> seen) {
        PlainBook plain = run.plain();
        String want = Check.answer(plain, method, arguments);
        boolean clash = CLASHERS.contains(method) && (want.equals("0") && !method.equals("rename") || want.startsWith("-"));
        if (clash) {
            seen.add("clash " + plain.clash(0));
            run.refused(want, false, method, arguments);
        } else if (want.startsWith("throws.")) {
            seen.add(want);
            run.refused(want, true, method, arguments);
        } else if (!CLASHERS.contains(method) && !CHANGERS.contains(method)) {
            seen.add("looks");
            run.refused(want, true, method, arguments);
        }
    }

    // The same, where there is no room for more.
    private static void whatThrowsInAFullBookChangesNothing() {
        Run run = full();
        run.unsupported("type", 'a');
        run.unsupported("name");
        run.badArgument("expand");
        run.unsupported("join", 3, 4, 1);
        run.unsupported("row", 59, 0, 0);
        run.unsupported("rename", 1, 59);
        run.unsupported("rename", 58, 57);
    }

    // "Methods throw what their comments name, the one named first when several would do."
    private static void theOneNamedFirst() {
        Run run = full();
        run.badArgument("type", 32);
        run.outOfBounds("row", 2, 60, 0);
        run.outOfBounds("row", 59, 0, 60);
        run.badState("row", 2, 0, 0);
        run.outOfBounds("told", 40, 3);
        run.outOfBounds("prefix", 60, 60);
        run.outOfBounds("prefix", 60, 3);
        run.outOfBounds("join", 60, 0, 2);
        run.badArgument("join", 3, 4, 2);
        run.outOfBounds("join", 3, 60, 1);
        run.outOfBounds("rename", 60, 60);
        run.outOfBounds("rename", 1, 60);
        run.badArgument("rename", 1, 1);
        run.then("clear").badState("name");
        run.badState("expand");
        run.type("q:x").badArgument("expand");
    }

    // "Methods throw what their comments name" - and nothing else, whatever they are told.
    private static void onlyWhatIsNamed() {
        Run[] runs = {new Run(), busy(), full()};
        for (Method method : face()) {
            List<String> named = Arrays.stream(method.getExceptionTypes()).map(type -> "throws." + type.getSimpleName()).toList();
            for (int[] arguments : argumentsOf(method, method.getParameterCount() == 3 ? FEW_LIMITS : LIMITS)) {
                for (Run run : runs) {
                    String got = Check.answer(run.again(), method.getName(), arguments);
                    Check.same(method.getName() + Arrays.toString(arguments) + " answers what is named, not " + got,
                            String.valueOf(!got.startsWith("throws.") || named.contains(got)), "true");
                }
            }
        }
    }

    // "An object is used for at most 512 calls after it has been made"
    private static void lastOfFiveHundredAndTwelveCalls() {
        Run run = Run.of("a");
        for (int call = 3; call <= 512; call++) {
            run.due(call - 2, "use", 0);
        }
    }

    // The same, in a book with as many names, rows and renames as there can be.
    private static void lastCallOfAFullBook() {
        Run run = full();
        int calls = run.calls();
        for (int call = calls + 1; call < 512; call++) {
            run.due(call - calls + 1, "use", 59);
        }
        // The book comes with one use, and the call left over only looks.
        run.due(512 - calls, "used", 59);
    }

    private static List<Method> face() {
        return Arrays.stream(NameRules.class.getDeclaredMethods()).filter(method -> Modifier.isPublic(method.getModifiers())).toList();
    }

    /** Each row of these numbers that the method can be told. */
    private static int[][] argumentsOf(Method method, int[] numbers) {
        int rows = 1;
        for (int i = 0; i < method.getParameterCount(); i++) {
            rows *= numbers.length;
        }
        int[][] all = new int[rows][method.getParameterCount()];
        for (int row = 0; row < rows; row++) {
            int left = row;
            for (int i = 0; i < all[row].length; i++) {
                all[row][i] = numbers[left % numbers.length];
                left /= numbers.length;
            }
        }
        return all;
    }
}
