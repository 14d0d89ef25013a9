/** Promises 12 to 19: rows of the vocabulary, uses, unknown names, how far names are apart. */
public final class RowsTest {
    public static void main(String[] args) {
        promise12Row();
        promise12RowWrong();
        promise12FortyRows();
        promise12TermThatLostItsSpace();
        promise13Told();
        promise14Document();
        promise14DocumentAsSpacesAreNow();
        promise15And16Uses();
        promise17Unknown();
        promise17UnknownAsSpacesAreNow();
        promise17FirstAndLastOfSixtyNames();
        promise18Apart();
        promise19Near();
        Check.finish();
    }

    /** 0 "s/", 1 "s" a short of it, 2 "s/b", 3 "s/a", 4 "s/ab", 5 "o". */
    private static NameRules vocabulary() {
        NameRules book = Check.bookOf("s/", "s", "s/b", "s/a", "s/ab", "o");
        book.prefix(0, 1);
        return book;
    }

    private static void promise12Row() {
        NameRules book = vocabulary();
        Check.due(book, 0, "row", 2, 0, 5);
        Check.due(book, 1, "row", 3, 3, 3);
        Check.due(book, 2, "count", 3);
        Check.due(book, -1, "row", 2, 1, 1);
        Check.clashDue(book, 2, 0, 2);
        Check.due(book, -2, "row", 3, 1, 1);
        Check.clashDue(book, 2, 1, 3);
        Check.due(book, 2, "count", 3);
        Check.due(book, 0, "told", 0, 1);
        Check.due(book, 3, "told", 1, 2);
    }

    private static void promise12RowWrong() {
        NameRules book = vocabulary();
        Check.badState(book, "row", 5, 0, 0);
        Check.badState(book, "row", 0, 2, 2);
        int[] wrong = {-1, 6, Integer.MAX_VALUE, Integer.MIN_VALUE};
        for (int number : wrong) {
            Check.outOfBounds(book, "row", number, 0, 0);
            Check.outOfBounds(book, "row", 2, number, 0);
            Check.outOfBounds(book, "row", 2, 0, number);
            Check.outOfBounds(book, "row", 5, 0, number);
        }
        book.row(2, 0, 0);
        Check.outOfBounds(book, "row", 2, 0, 6);
        Check.due(book, 1, "count", 3);
        Check.clashDue(book, 0, -1, -1);
    }

    private static void promise12FortyRows() {
        NameRules book = Check.bookOf("s", "t", "o");
        book.prefix(0, 1);
        for (int i = 0; i < 41; i++) {
            Check.names(book, "s" + (char) ('A' + i));
        }
        for (int i = 0; i < 40; i++) {
            Check.due(book, i, "row", 3 + i, 0, 0);
        }
        Check.unsupported(book, "row", 43, 0, 0);
        Check.clashDue(book, 0, -1, -1);
        Check.due(book, -40, "row", 42, 0, 0);
        Check.clashDue(book, 2, 39, 42);
        Check.badState(book, "row", 2, 0, 0);
        Check.outOfBounds(book, "row", 43, 0, 99);
        Check.due(book, 40, "count", 3);
        Check.due(book, 39, "document", 0, 39);
        Check.due(book, -1, "document", 0, 40);
        Check.due(book, 39, "near", 43, 39);
        Check.due(book, -1, "near", 43, 40);
    }

    private static void promise12TermThatLostItsSpace() {
        NameRules book = vocabulary();
        book.row(2, 0, 0);
        book.rename(2, 5);
        Check.badState(book, "row", 5, 0, 0);
        Check.clashDue(book, 0, -1, -1);
        Check.due(book, 1, "row", 2, 0, 0);
    }

    private static void promise13Told() {
        NameRules book = vocabulary();
        book.row(2, 0, 5);
        book.row(4, 5, 2);
        int[] due = {2, 0, 5, 4, 5, 2};
        for (int i = 0; i < due.length; i++) {
            Check.due(book, due[i], "told", i / 3, i % 3);
        }
        int[] wrong = {-1, 3, Integer.MAX_VALUE, Integer.MIN_VALUE};
        for (int what : wrong) {
            Check.badArgument(book, "told", 0, what);
            Check.badArgument(book, "told", 1, what);
        }
        Check.outOfBounds(book, "told", -1, 0);
        Check.outOfBounds(book, "told", 2, 0);
        Check.outOfBounds(book, "told", 2, 3);
        Check.outOfBounds(book, "told", Integer.MIN_VALUE, 3);
    }

    private static void promise14Document() {
        NameRules book = vocabulary();
        Check.names(book, "s/B", "s/a/", "s/a/x", "t");
        book.prefix(7, 9);
        int[] terms = {2, 4, 3, 6, 8, 7};
        for (int term : terms) {
            book.row(term, 5, 5);
        }
        int[] due = {3, 2, 5, 1, 0, -1};
        for (int i = 0; i < due.length; i++) {
            Check.due(book, due[i], "document", 0, i);
        }
        Check.due(book, 4, "document", 7, 0);
        Check.due(book, -1, "document", 7, 1);
        Check.due(book, -1, "document", 5, 0);
        Check.due(book, -1, "document", 0, Integer.MAX_VALUE);
        Check.outOfBounds(book, "document", 0, -1);
        Check.outOfBounds(book, "document", -1, 0);
        Check.outOfBounds(book, "document", 10, 0);
        Check.outOfBounds(book, "document", 0, Integer.MIN_VALUE);
    }

    private static void promise14DocumentAsSpacesAreNow() {
        NameRules book = vocabulary();
        book.row(2, 5, 5);
        book.row(4, 5, 5);
        Check.due(book, 1, "document", 0, 0);
        Check.names(book, "a");
        book.prefix(3, 6);
        Check.due(book, 0, "document", 0, 0);
        Check.due(book, 1, "document", 3, 0);
        book.rename(4, 5);
        Check.due(book, -1, "document", 3, 0);
        Check.due(book, -1, "document", 0, 1);
    }

    private static void promise15And16Uses() {
        NameRules book = vocabulary();
        Check.due(book, 0, "used", 2);
        Check.due(book, 1, "use", 2);
        Check.due(book, 2, "use", 2);
        Check.due(book, 1, "use", 5);
        Check.due(book, 2, "used", 2);
        Check.due(book, 1, "used", 5);
        Check.due(book, 0, "used", 3);
        int[] wrong = {-1, 6, 59, 60, Integer.MAX_VALUE, Integer.MIN_VALUE};
        for (int name : wrong) {
            Check.outOfBounds(book, "use", name);
            Check.outOfBounds(book, "used", name);
        }
        Check.names(book, "new");
        Check.due(book, 0, "used", 6);
    }

    private static void promise17Unknown() {
        NameRules book = vocabulary();
        book.use(4);
        book.use(3);
        book.use(5);
        book.use(0);
        Check.due(book, -1, "unknown", 0);
        Check.due(book, 0, "count", 6);
        book.row(2, 5, 5);
        Check.due(book, 3, "unknown", 0);
        Check.due(book, 4, "unknown", 1);
        Check.due(book, -1, "unknown", 2);
        Check.due(book, 2, "count", 6);
        book.use(2);
        Check.due(book, 2, "count", 6);
        book.row(3, 5, 5);
        Check.due(book, 4, "unknown", 0);
        Check.due(book, -1, "unknown", 1);
        Check.due(book, -1, "unknown", Integer.MAX_VALUE);
        Check.outOfBounds(book, "unknown", -1);
        Check.outOfBounds(book, "unknown", Integer.MIN_VALUE);
    }

    private static void promise17UnknownAsSpacesAreNow() {
        NameRules book = vocabulary();
        book.use(4);
        book.row(2, 5, 5);
        Check.due(book, 4, "unknown", 0);
        Check.names(book, "a");
        book.prefix(3, 6);
        Check.due(book, -1, "unknown", 0);
        book.use(3);
        Check.due(book, 3, "unknown", 0);
        book.rename(2, 5);
        Check.due(book, -1, "unknown", 0);
        book.use(1);
        Check.due(book, 0, "count", 6);
    }

    private static void promise17FirstAndLastOfSixtyNames() {
        NameRules book = Check.bookOf("sa", "s", "t", "sb");
        for (int i = 0; i < 55; i++) {
            Check.names(book, String.valueOf((char) ('!' + i)));
        }
        Check.names(book, "sz");
        book.prefix(1, 2);
        book.row(3, 0, 0);
        book.use(0);
        book.use(59);
        Check.due(book, 2, "count", 6);
        Check.due(book, 0, "unknown", 0);
        Check.due(book, 59, "unknown", 1);
        Check.due(book, -1, "unknown", 2);
        Check.due(book, 1, "space", 59);
    }

    private static void promise18Apart() {
        NameRules book = Check.bookOf("kitten", "sitting", "k", "KITTEN", "abcdefghijklmnopqrstuvwx",
                "bcdefghijklmnopqrstuvwxa", "xxxxxxxxxxxxxxxxxxxxxxxx", "ab", "ba", "!");
        int[][] due = {{0, 1, 3}, {0, 0, 0}, {0, 2, 5}, {0, 3, 6}, {4, 5, 2}, {4, 6, 23}, {7, 8, 2}, {4, 9, 24}, {6, 6, 0},
            {1, 2, 7}, {4, 7, 22}};
        for (int[] row : due) {
            Check.due(book, row[2], "apart", row[0], row[1]);
            Check.due(book, row[2], "apart", row[1], row[0]);
        }
        Check.outOfBounds(book, "apart", -1, 0);
        Check.outOfBounds(book, "apart", 0, -1);
        Check.outOfBounds(book, "apart", 10, 0);
        Check.outOfBounds(book, "apart", 0, 10);
    }

    private static void promise19Near() {
        NameRules book = vocabulary();
        Check.names(book, "t/", "t", "t/abc");
        book.prefix(6, 7);
        Check.due(book, -1, "near", 0, 0);
        int[] terms = {8, 4, 2, 3};
        for (int term : terms) {
            book.row(term, 5, 5);
        }
        int[] fromSab = {1, 2, 3, 0, -1};
        int[] fromO = {2, 3, 1, 0, -1};
        for (int i = 0; i < 5; i++) {
            Check.due(book, fromSab[i], "near", 4, i);
            Check.due(book, fromO[i], "near", 5, i);
        }
        Check.due(book, -1, "near", 0, Integer.MAX_VALUE);
        Check.outOfBounds(book, "near", 0, -1);
        Check.outOfBounds(book, "near", 0, Integer.MIN_VALUE);
        Check.outOfBounds(book, "near", -1, 0);
        Check.outOfBounds(book, "near", 9, 0);
    }
}
