import java.util.ArrayList;
import java.util.Arrays;
import java.util.List;
import java.util.function.Function;

/**
 * A run of calls on one object, kept so that it can be made again. A refused call is made on new
 * objects that went the same way; they must then answer everything as those that did not get it.
 */
final class Run {
    private static final int MOST_CALLS = 512;
    // A name is printed with at most 28 characters.
    private static final int CALLS_OF_A_QUESTION = 32;
    // Asking about each two of many names would take long, and tell no more.
    private static final int NAMES_ASKED_IN_PAIRS = 12;

    private record Call(String method, int... arguments) {
        String on(Object book) {
            return Check.answer(book, method, arguments);
        }

        @Override
        public String toString() {
            return method + Arrays.toString(arguments);
        }
    }

    private final List<Call> calls = new ArrayList<>();
    private final NameRules book = new NameRules();

    /** These names, numbered from 0 on. */
    static Run of(String... texts) {
        return new Run().names(texts);
    }

    /** "A", "B", .. by their codes: name 'a' - 'A' is "a". */
    static Run ofLetters(int names) {
        Run run = new Run();
        for (int i = 0; i < names; i++) {
            run.names(String.valueOf((char) ('A' + i)));
        }
        return run;
    }

    Run names(String... texts) {
        for (String text : texts) {
            type(text).then("name");
        }
        return this;
    }

    Run type(String text) {
        for (char c : text.toCharArray()) {
            then("type", c);
        }
        return this;
    }

    /** A call that only leads to what is looked at: it must not be refused. */
    Run then(String method, int... arguments) {
        String got = make(method, arguments);
        Check.same(method + Arrays.toString(arguments) + " is refused", String.valueOf(got.startsWith("throws.")), "false");
        return this;
    }

    void due(int want, String method, int... arguments) {
        Check.same(method + Arrays.toString(arguments), make(method, arguments), String.valueOf(want));
    }

    void printedDue(String want, String method, int name) {
        due(want.length(), method, name);
        lettersDue(want);
    }

    void lettersDue(String want) {
        for (int i = 0; i < want.length(); i++) {
            due(want.charAt(i), "letter", i);
        }
        due(0, "letter", want.length());
    }

    void clashDue(int kind, int first, int second) {
        due(kind, "clash", 0);
        due(first, "clash", 1);
        due(second, "clash", 2);
    }

    /** This answer, and everything is then as if the call had not been made. */
    void sameBehind(int want, String method, int... arguments) {
        refused(String.valueOf(want), true, method, arguments);
    }

    void outOfBounds(String method, int... arguments) {
        refused("throws.IndexOutOfBoundsException", true, method, arguments);
    }

    void badArgument(String method, int... arguments) {
        refused("throws.IllegalArgumentException", true, method, arguments);
    }

    void badState(String method, int... arguments) {
        refused("throws.IllegalStateException", true, method, arguments);
    }

    void unsupported(String method, int... arguments) {
        refused("throws.UnsupportedOperationException", true, method, arguments);
    }

    /** This answer, clash() tells this, and all else is as if the call had not been made. */
    void clashes(int want, int[] clash, String method, int... arguments) {
        refused(String.valueOf(want), false, method, arguments);
        due(want, method, arguments);
        clashDue(clash[0], clash[1], clash[2]);
    }

    /** A book of the other writing that went the same way. */
    PlainBook plain() {
        PlainBook plain = new PlainBook();
        for (Call call : calls) {
            call.on(plain);
        }
        return plain;
    }

    private String make(String method, int... arguments) {
        Call call = new Call(method, arguments);
        calls.add(call);
        if (calls.size() > MOST_CALLS) {
            throw new IllegalStateException("the test makes more calls than the document allows");
        }
        return call.on(book);
    }

    /** This answer, as text, and all is then as before; clash() may tell something else if that is said. */
    void refused(String want, boolean clashIsTheSame, String method, int... arguments) {
        Call call = new Call(method, arguments);
        List<Function<NameRules, String>> questions = questions(clashIsTheSame);
        int free = MOST_CALLS - calls.size() - 1;
        int asked = Math.max(1, free / CALLS_OF_A_QUESTION);
        for (int start = 0; start < questions.size(); start += asked) {
            NameRules without = again();
            NameRules with = again();
            Check.same(call.toString(), call.on(with), want);
            for (Function<NameRules, String> question : questions.subList(start, Math.min(start + asked, questions.size()))) {
                Check.same("what is told behind " + call, question.apply(with), question.apply(without));
            }
        }
    }

    int calls() {
        return calls.size();
    }

    /** A new object that went the same way. */
    NameRules again() {
        NameRules other = new NameRules();
        for (Call call : calls) {
            call.on(other);
        }
        return other;
    }

    private List<Function<NameRules, String>> questions(boolean clashToo) {
        int names = book.count(0);
        List<Function<NameRules, String>> questions = new ArrayList<>();
        questions.add(Run::letters);
        questions.add(other -> answers(other, "count", 0, 6));
        if (clashToo) {
            questions.add(other -> answers(other, "clash", 0, 2));
        }
        for (int row = 0; row < book.count(3); row++) {
            int number = row;
            questions.add(other -> number + ": " + Check.answer(other, "told", number, 0)
                    + " " + Check.answer(other, "told", number, 1) + " " + Check.answer(other, "told", number, 2));
        }
        questions.add(other -> answers(other, "unknown", 0, Math.min(20, names)));
        for (int name = 0; name < names; name++) {
            int number = name;
            questions.add(other -> facts(other, number));
            questions.add(other -> written(other, "print", number));
            questions.add(other -> written(other, "propose", number));
        }
        for (int pair = 0; names <= NAMES_ASKED_IN_PAIRS && pair < names * names; pair++) {
            int from = pair / names;
            int to = pair % names;
            questions.add(other -> renamed(other, from, to));
        }
        questions.add(Run::named);
        return questions;
    }

    private static String facts(NameRules book, int name) {
        StringBuilder text = new StringBuilder();
        for (String method : new String[] {"space", "best", "used", "meaning", "now", "was"}) {
            text.append(method).append("(").append(name).append(") ").append(Check.answer(book, method, name)).append(" ");
        }
        for (int i = 0; i < 3; i++) {
            text.append("document ").append(Check.answer(book, "document", name, i));
            text.append(" near ").append(Check.answer(book, "near", name, i)).append(" ");
        }
        return text.toString();
    }

    /** Tells the rows of both names, or what both stand for, when they clash. */
    private static String renamed(NameRules book, int from, int to) {
        String answer = Check.answer(book, "rename", from, to);
        return "rename(" + from + ", " + to + ") " + answer + (answer.equals("-1") ? answers(book, "clash", 0, 2) : "");
    }

    /** What is on the tape. */
    private static String named(NameRules book) {
        String answer = Check.answer(book, "name");
        return "name " + answer + (answer.startsWith("throws.") ? "" : written(book, "print", Integer.parseInt(answer)));
    }

    private static String written(NameRules book, String method, int name) {
        return method + "(" + name + ") " + Check.answer(book, method, name) + letters(book);
    }

    private static String letters(NameRules book) {
        StringBuilder text = new StringBuilder(" written: ");
        char letter = book.letter(0);
        for (int i = 1; i < 29 && letter != 0; i++) {
            text.append(letter);
            letter = book.letter(i);
        }
        return text.toString();
    }

    private static String answers(NameRules book, String method, int first, int last) {
        StringBuilder text = new StringBuilder(method);
        for (int i = first; i <= last; i++) {
            text.append(" ").append(Check.answer(book, method, i));
        }
        return text.toString();
    }
}
