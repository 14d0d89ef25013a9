import java.lang.reflect.InvocationTargetException;
import java.lang.reflect.Method;
import java.util.Arrays;

/** Calls by name, their answers as text, and a tally of those that are not as due. */
final class Check {
    private static int wrong = 0;

    private Check() {
    }

    /** The answer as text: a number (a boolean counts 1 or 0, a char its code), or throws.X. */
    static String answer(Object book, String method, int... arguments) {
        Class<?>[] types = new Class<?>[arguments.length];
        Arrays.fill(types, int.class);
        Object[] boxed = Arrays.stream(arguments).boxed().toArray();
        try {
            Method found = book.getClass().getDeclaredMethod(method, types);
            found.setAccessible(true);
            Object got = found.invoke(book, boxed);
            if (got instanceof Boolean) {
                return (Boolean) got ? "1" : "0";
            }
            return got instanceof Character ? String.valueOf((int) (Character) got) : String.valueOf(got);
        } catch (InvocationTargetException e) {
            return "throws." + e.getCause().getClass().getSimpleName();
        } catch (ReflectiveOperationException e) {
            return "no such method";
        }
    }

    static void due(NameRules book, String want, String method, int... arguments) {
        same(method + Arrays.toString(arguments), answer(book, method, arguments), want);
    }

    static void due(NameRules book, int want, String method, int... arguments) {
        due(book, String.valueOf(want), method, arguments);
    }

    static void outOfBounds(NameRules book, String method, int... arguments) {
        due(book, "throws.IndexOutOfBoundsException", method, arguments);
    }

    static void badArgument(NameRules book, String method, int... arguments) {
        due(book, "throws.IllegalArgumentException", method, arguments);
    }

    static void badState(NameRules book, String method, int... arguments) {
        due(book, "throws.IllegalStateException", method, arguments);
    }

    static void unsupported(NameRules book, String method, int... arguments) {
        due(book, "throws.UnsupportedOperationException", method, arguments);
    }

    static void clashDue(NameRules book, int kind, int first, int second) {
        due(book, kind, "clash", 0);
        due(book, first, "clash", 1);
        due(book, second, "clash", 2);
    }

    static void same(String what, String got, String want) {
        if (!got.equals(want)) {
            wrong++;
            StackTraceElement caller = caller();
            System.out.println(caller.getMethodName() + ", line " + caller.getLineNumber() + ": " + what
                    + " answered " + got + ", due is " + want);
        }
    }

    static void write(NameRules book, String text) {
        for (char c : text.toCharArray()) {
            book.type(c);
        }
    }

    /** Makes these names; they are numbered from 0 on in a new book. */
    static void names(NameRules book, String... texts) {
        for (String text : texts) {
            write(book, text);
            book.name();
        }
    }

    static NameRules bookOf(String... texts) {
        NameRules book = new NameRules();
        names(book, texts);
        return book;
    }

    /** What was printed or proposed latest. */
    static String printed(NameRules book) {
        StringBuilder text = new StringBuilder();
        for (int i = 0; book.letter(i) != 0; i++) {
            text.append(book.letter(i));
        }
        return text.toString();
    }

    static void printedDue(NameRules book, String want, String method, int name) {
        due(book, want.length(), method, name);
        same(method + "(" + name + ") written", printed(book), want);
    }

    static void finish() {
        System.out.println(wrong == 0 ? "all answers are as due" : wrong + " answers are not as due");
        if (wrong != 0) {
            System.exit(1);
        }
    }

    private static StackTraceElement caller() {
        for (StackTraceElement element : new Throwable().getStackTrace()) {
            if (!element.getClassName().equals("Check") && !element.getClassName().startsWith("Run")) {
                return element;
            }
        }
        return new StackTraceElement("Check", "?", "?", 0);
    }
}
