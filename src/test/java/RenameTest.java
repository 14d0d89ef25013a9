/** Promises 20 to 27: names that stand for others, joined and renamed names, clashes, counts. */
public final class RenameTest {
    public static void main(String[] args) {
        promise20Alias();
        promise20AliasChanged();
        promise21Meaning();
        promise21LongestChain();
        promise22JoinBesides();
        promise22JoinWithin();
        promise22JoinWrong();
        promise23RenamePlaces();
        promise23RenameWhatOthersStandFor();
        promise23RenameKeepsShorts();
        promise23RenameClashes();
        promise23RenameWrong();
        promise24And25NowAndWas();
        promise26Clash();
        promise27Count();
        Check.finish();
    }

    private static NameRules letters() {
        return Check.bookOf("a", "b", "c", "d", "e");
    }

    private static void promise20Alias() {
        NameRules book = letters();
        Check.due(book, 1, "alias", 0, 1);
        Check.due(book, 1, "alias", 0, 1);
        Check.due(book, 1, "alias", 1, 2);
        Check.clashDue(book, 0, -1, -1);
        Check.due(book, 0, "alias", 2, 0);
        Check.clashDue(book, 3, 2, 0);
        Check.due(book, 0, "alias", 1, 0);
        Check.clashDue(book, 3, 1, 0);
        Check.due(book, 0, "alias", 3, 3);
        Check.clashDue(book, 3, 3, 3);
        Check.due(book, 3, "meaning", 3);
        Check.due(book, 2, "meaning", 0);
        int[] wrong = {-1, 5, Integer.MAX_VALUE, Integer.MIN_VALUE};
        for (int name : wrong) {
            Check.outOfBounds(book, "alias", name, 0);
            Check.outOfBounds(book, "alias", 0, name);
            Check.outOfBounds(book, "alias", name, name);
        }
        Check.clashDue(book, 3, 3, 3);
    }

    private static void promise20AliasChanged() {
        NameRules book = letters();
        book.alias(0, 1);
        Check.due(book, 1, "alias", 0, 2);
        Check.due(book, 2, "meaning", 0);
        Check.due(book, 1, "alias", 1, 0);
        Check.due(book, 2, "meaning", 1);
        Check.due(book, 0, "alias", 0, 1);
        Check.due(book, 2, "meaning", 0);
        Check.due(book, 1, "alias", 3, 0);
        Check.due(book, 1, "alias", 0, 4);
        Check.due(book, 4, "meaning", 3);
    }

    private static void promise21Meaning() {
        NameRules book = letters();
        Check.due(book, 0, "meaning", 0);
        book.alias(0, 1);
        book.alias(2, 1);
        book.alias(1, 3);
        int[] due = {3, 3, 3, 3, 4};
        for (int i = 0; i < due.length; i++) {
            Check.due(book, due[i], "meaning", i);
        }
        Check.outOfBounds(book, "meaning", -1);
        Check.outOfBounds(book, "meaning", 5);
    }

    private static void promise21LongestChain() {
        NameRules book = new NameRules();
        for (int i = 0; i < 60; i++) {
            Check.names(book, String.valueOf((char) ('A' + i)));
        }
        for (int i = 0; i < 59; i++) {
            Check.due(book, 1, "alias", i, i + 1);
        }
        Check.due(book, 59, "meaning", 0);
        Check.due(book, 0, "alias", 59, 0);
        Check.clashDue(book, 3, 59, 0);
        Check.due(book, -1, "rename", 59, 0);
        Check.clashDue(book, 3, 59, 0);
        Check.outOfBounds(book, "meaning", 60);
    }

    private static void promise22JoinBesides() {
        NameRules book = Check.bookOf("a/b/c", "x/y", "z", "/", "a/b/x/y");
        Check.due(book, 4, "join", 0, 1, 0);
        Check.due(book, 1, "join", 2, 1, 0);
        joinedDue(book, 5, "//", 3, 3, 0);
        joinedDue(book, 6, "/z", 3, 2, 0);
        joinedDue(book, 7, "a/b/a/b/c", 0, 0, 0);
        joinedDue(book, 8, "x/z", 1, 2, 0);
        Check.due(book, 2, "join", 2, 2, 0);
        Check.due(book, 9, "count", 0);
    }

    private static void promise22JoinWithin() {
        NameRules book = Check.bookOf("a#b#c", "x", "#", "y#z");
        joinedDue(book, 4, "a#x", 0, 1, 1);
        joinedDue(book, 5, "x#a#b#c", 1, 0, 1);
        joinedDue(book, 6, "#x", 2, 1, 1);
        joinedDue(book, 7, "##", 2, 2, 1);
        joinedDue(book, 8, "x#x", 1, 1, 1);
        joinedDue(book, 9, "y#y#z", 3, 3, 1);
        Check.due(book, 4, "join", 0, 1, 1);
    }

    private static void promise22JoinWrong() {
        NameRules book = Check.bookOf("abcdefghijklmnopqrstuv/", "x", "xy", "abcdefghijklmnopqrstuvw", "x#", "#");
        joinedDue(book, 6, "abcdefghijklmnopqrstuv/x", 0, 1, 0);
        Check.unsupported(book, "join", 0, 2, 0);
        Check.unsupported(book, "join", 3, 1, 1);
        Check.unsupported(book, "join", 6, 6, 1);
        Check.unsupported(book, "join", 1, 0, 1);
        int[] rules = {-1, 2, Integer.MAX_VALUE, Integer.MIN_VALUE};
        for (int rule : rules) {
            Check.badArgument(book, "join", 0, 2, rule);
            Check.outOfBounds(book, "join", 9, 0, rule);
            Check.outOfBounds(book, "join", 0, -1, rule);
        }
        Check.outOfBounds(book, "join", 7, 0, 0);
        Check.due(book, 7, "count", 0);
        for (int i = 0; i < 53; i++) {
            Check.names(book, String.valueOf((char) ('A' + i)));
        }
        Check.unsupported(book, "join", 2, 2, 1);
        Check.badArgument(book, "join", 2, 2, 2);
        Check.due(book, 1, "join", 1, 1, 0);
        Check.due(book, 60, "count", 0);
    }

    private static void joinedDue(NameRules book, int want, String text, int a, int b, int rule) {
        Check.due(book, want, "join", a, b, rule);
        Check.printedDue(book, "<" + text + ">", "print", want);
    }

    /** 0 "s", 1 "t" a short of it, 2 "sa", 3 "sb", 4 "sc", 5 "sd", 6 "se". */
    private static NameRules vocabulary() {
        NameRules book = Check.bookOf("s", "t", "sa", "sb", "sc", "sd", "se");
        book.prefix(0, 1);
        return book;
    }

    private static void promise23RenamePlaces() {
        NameRules book = vocabulary();
        book.row(2, 2, 2);
        book.row(3, 2, 4);
        book.alias(5, 2);
        book.alias(4, 2);
        book.alias(2, 3);
        book.use(2);
        book.use(2);
        book.use(6);
        Check.due(book, 8, "rename", 2, 6);
        int[] cells = {6, 6, 6, 3, 6, 4};
        for (int i = 0; i < cells.length; i++) {
            Check.due(book, cells[i], "told", i / 3, i % 3);
        }
        Check.due(book, 0, "used", 2);
        Check.due(book, 3, "used", 6);
        Check.due(book, 2, "meaning", 2);
        Check.due(book, 3, "meaning", 6);
        Check.due(book, 3, "meaning", 5);
        Check.due(book, 1, "alias", 6, 1);
        Check.due(book, 1, "meaning", 4);
        Check.due(book, 1, "meaning", 5);
        Check.due(book, 0, "rename", 2, 0);
        Check.due(book, 2, "count", 4);
        Check.due(book, 0, "rename", 2, 0);
        Check.due(book, 3, "count", 4);
        Check.due(book, 7, "count", 0);
        Check.clashDue(book, 0, -1, -1);
    }

    private static void promise23RenameWhatOthersStandFor() {
        NameRules book = letters();
        book.alias(0, 1);
        book.alias(4, 1);
        Check.due(book, 2, "rename", 1, 2);
        Check.due(book, 2, "meaning", 0);
        Check.due(book, 2, "meaning", 4);
        Check.due(book, 1, "rename", 0, 3);
        Check.due(book, 2, "meaning", 3);
        Check.due(book, 0, "meaning", 0);
    }

    private static void promise23RenameKeepsShorts() {
        NameRules book = vocabulary();
        Check.due(book, 0, "rename", 0, 2);
        Check.due(book, 0, "rename", 1, 3);
        Check.due(book, 0, "space", 4);
        Check.due(book, 1, "best", 4);
        Check.printedDue(book, "t:c", "print", 4);
        Check.due(book, 1, "count", 1);
        Check.due(book, 1, "count", 2);
    }

    private static void promise23RenameClashes() {
        NameRules book = vocabulary();
        book.row(3, 0, 0);
        book.row(2, 0, 0);
        book.alias(2, 3);
        book.alias(3, 4);
        book.use(2);
        Check.due(book, -1, "rename", 2, 3);
        Check.clashDue(book, 4, 1, 0);
        Check.due(book, -1, "rename", 3, 2);
        Check.clashDue(book, 4, 0, 1);
        book.alias(5, 2);
        Check.due(book, -1, "rename", 5, 3);
        Check.clashDue(book, 5, 2, 4);
        Check.due(book, -1, "rename", 3, 5);
        Check.clashDue(book, 5, 4, 2);
        Check.due(book, -1, "rename", 4, 5);
        Check.clashDue(book, 3, 4, 5);
        Check.due(book, -1, "rename", 5, 4);
        Check.clashDue(book, 3, 5, 4);
        Check.due(book, -1, "rename", 3, 4);
        Check.clashDue(book, 3, 3, 4);
        book.alias(6, 2);
        Check.due(book, -1, "rename", 5, 6);
        Check.clashDue(book, 5, 2, 2);
        Check.due(book, 0, "count", 4);
        Check.due(book, 1, "used", 2);
        Check.due(book, 4, "meaning", 5);
        Check.due(book, 3, "told", 0, 0);
    }

    private static void promise23RenameWrong() {
        NameRules book = letters();
        Check.badArgument(book, "rename", 2, 2);
        int[] wrong = {-1, 5, Integer.MAX_VALUE, Integer.MIN_VALUE};
        for (int name : wrong) {
            Check.outOfBounds(book, "rename", name, 0);
            Check.outOfBounds(book, "rename", 0, name);
            Check.outOfBounds(book, "rename", name, name);
        }
        book.use(0);
        for (int i = 0; i < 20; i++) {
            Check.due(book, 1, "rename", i % 2, 1 - i % 2);
        }
        Check.unsupported(book, "rename", 0, 1);
        Check.unsupported(book, "rename", 2, 3);
        Check.due(book, 0, "now", 0);
        Check.due(book, 0, "was", 0);
        Check.due(book, 2, "now", 2);
        Check.badArgument(book, "rename", 2, 2);
        Check.outOfBounds(book, "rename", 2, 5);
        Check.due(book, 1, "used", 0);
        book.alias(2, 3);
        Check.unsupported(book, "rename", 2, 4);
        Check.due(book, 3, "meaning", 2);
        Check.due(book, -1, "rename", 2, 3);
        Check.clashDue(book, 3, 2, 3);
        Check.due(book, 20, "count", 4);
    }

    private static void promise24And25NowAndWas() {
        NameRules book = letters();
        Check.due(book, 0, "now", 0);
        Check.due(book, 0, "was", 0);
        book.rename(0, 1);
        book.rename(1, 2);
        book.rename(3, 0);
        int[] now = {2, 2, 2, 0, 4};
        int[] was = {3, 0, 0, 3, 4};
        for (int i = 0; i < 5; i++) {
            Check.due(book, now[i], "now", i);
            Check.due(book, was[i], "was", i);
        }
        book.alias(0, 4);
        Check.due(book, -1, "rename", 4, 0);
        Check.due(book, 4, "now", 4);
        Check.due(book, 4, "was", 4);
        book.rename(2, 3);
        Check.due(book, 3, "now", 0);
        Check.due(book, 0, "was", 3);
        for (String method : new String[] {"now", "was"}) {
            Check.outOfBounds(book, method, -1);
            Check.outOfBounds(book, method, 5);
        }
    }

    private static void promise26Clash() {
        NameRules book = vocabulary();
        Check.clashDue(book, 0, -1, -1);
        book.prefix(2, 1);
        Check.clashDue(book, 1, 0, 2);
        book.row(3, 0, 0);
        book.row(3, 0, 0);
        Check.clashDue(book, 2, 0, 3);
        book.alias(4, 4);
        Check.clashDue(book, 3, 4, 4);
        book.alias(4, 5);
        book.use(4);
        Check.outOfBounds(book, "alias", 7, 7);
        Check.clashDue(book, 3, 4, 4);
        book.prefix(2, 1);
        Check.clashDue(book, 1, 0, 2);
        int[] wrong = {-1, 3, Integer.MAX_VALUE, Integer.MIN_VALUE};
        for (int what : wrong) {
            Check.badArgument(book, "clash", what);
        }
    }

    private static void promise27Count() {
        NameRules book = vocabulary();
        Check.names(book, "u");
        book.prefix(0, 7);
        book.row(2, 0, 0);
        book.use(3);
        book.use(4);
        book.use(5);
        book.rename(6, 7);
        book.rename(7, 6);
        book.rename(6, 7);
        book.type('x');
        book.type('y');
        int[] due = {8, 1, 2, 1, 3, 2, 3};
        for (int what = 0; what < due.length; what++) {
            Check.due(book, due[what], "count", what);
        }
        int[] wrong = {-1, 7, Integer.MAX_VALUE, Integer.MIN_VALUE};
        for (int what : wrong) {
            Check.badArgument(book, "count", what);
        }
    }
}
