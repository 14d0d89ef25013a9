/** Promises 1 to 5: a new object, the tape, names from it, printed names read again. */
public final class TapeTest {
    public static void main(String[] args) {
        promise1NewObject();
        promise2Type();
        promise3Clear();
        promise4Name();
        promise4SixtyNames();
        promise5ExpandInBrackets();
        promise5ExpandByShort();
        promise5ExpandWrong();
        promise5ExpandTooLongOrTooMany();
        Check.finish();
    }

    private static void promise1NewObject() {
        NameRules book = new NameRules();
        for (int what = 0; what <= 6; what++) {
            Check.due(book, 0, "count", what);
        }
        Check.due(book, 0, "letter", 0);
        Check.clashDue(book, 0, -1, -1);
        Check.due(book, 0, "clear");
        Check.outOfBounds(book, "space", 0);
        Check.outOfBounds(book, "told", 0, 0);
        Check.due(book, -1, "unknown", 0);
    }

    private static void promise2Type() {
        NameRules book = new NameRules();
        int[] wrong = {Integer.MIN_VALUE, -1, 0, 32, 127, 33 + 65536, Integer.MAX_VALUE};
        for (int character : wrong) {
            Check.badArgument(book, "type", character);
        }
        Check.due(book, 0, "count", 5);
        for (int i = 1; i <= 24; i++) {
            Check.due(book, i, "type", i % 2 == 0 ? 33 : 126);
        }
        Check.unsupported(book, "type", 'a');
        Check.badArgument(book, "type", 32);
        Check.due(book, 24, "count", 5);
    }

    private static void promise3Clear() {
        NameRules book = new NameRules();
        Check.due(book, 0, "clear");
        Check.write(book, "abc");
        Check.due(book, 3, "clear");
        Check.due(book, 0, "clear");
        Check.due(book, 1, "type", 'x');
        Check.due(book, 0, "name");
        Check.printedDue(book, "<x>", "print", 0);
    }

    private static void promise4Name() {
        NameRules book = new NameRules();
        Check.badState(book, "name");
        String[] texts = {"ab", "a", "abc", "AB", "!", "~~~~~~~~~~~~~~~~~~~~~~~~"};
        for (int round = 0; round < 2; round++) {
            for (int i = 0; i < texts.length; i++) {
                Check.write(book, texts[i]);
                Check.due(book, i, "name");
                Check.due(book, 0, "count", 5);
                Check.printedDue(book, "<" + texts[i] + ">", "print", i);
            }
        }
        Check.due(book, texts.length, "count", 0);
        Check.badState(book, "name");
    }

    private static void promise4SixtyNames() {
        NameRules book = sixtyNames();
        Check.badState(book, "name");
        Check.write(book, "zz");
        Check.unsupported(book, "name");
        Check.due(book, 2, "count", 5);
        Check.due(book, 60, "count", 0);
        Check.due(book, 2, "clear");
        Check.write(book, "A");
        Check.due(book, 0, "name");
        Check.outOfBounds(book, "space", 60);
    }

    private static void promise5ExpandInBrackets() {
        NameRules book = Check.bookOf("a", "b", "b:c");
        book.prefix(0, 1);
        expandDue(book, 2, "<b:c>");
        expandDue(book, 3, "<<>");
        expandDue(book, 4, "<>>");
        expandDue(book, 5, "<:>");
        expandDue(book, 0, "<a>");
        expandDue(book, 6, "<><>");
        Check.printedDue(book, "<<>", "print", 3);
        Check.printedDue(book, "<><>", "print", 6);
        Check.due(book, 7, "count", 0);
        Check.due(book, 0, "count", 5);
    }

    private static void promise5ExpandByShort() {
        NameRules book = Check.bookOf("http/", "h", "h2", "http/x");
        book.prefix(0, 1);
        book.prefix(0, 2);
        expandDue(book, 3, "h:x");
        expandDue(book, 3, "h2:x");
        expandDue(book, 4, "h::");
        expandDue(book, 5, "h:a:b");
        Check.printedDue(book, "h::", "print", 4);
        Check.printedDue(book, "h:a:b", "print", 5);
        expandDue(book, 6, "h:>");
        Check.due(book, 7, "count", 0);
    }

    private static void promise5ExpandWrong() {
        NameRules book = Check.bookOf("http/", "h", "q");
        book.prefix(0, 1);
        Check.badState(book, "expand");
        String[] wrong = {"h:", ":", ":x", "h", "hx", "q:x", "qq:x", "http/:x", "<>", "<", ">", "<h", "h>", "H:x", "<h:x", ">h:x>", "a:h:x"};
        for (String text : wrong) {
            Check.write(book, text);
            Check.badArgument(book, "expand");
            Check.due(book, text.length(), "clear");
        }
        Check.due(book, 3, "count", 0);
        Check.clashDue(book, 0, -1, -1);
    }

    private static void promise5ExpandTooLongOrTooMany() {
        NameRules book = Check.bookOf("abcdefghijklmnopqrstuv", "a");
        book.prefix(0, 1);
        expandDue(book, 2, "a:wx");
        Check.write(book, "a:wxy");
        Check.unsupported(book, "expand");
        Check.due(book, 5, "count", 5);
        Check.due(book, 3, "count", 0);

        NameRules full = sixtyNames();
        Check.write(full, "a:b");
        Check.badArgument(full, "expand");
        full.prefix(0, 'a' - 'A');
        Check.unsupported(full, "expand");
        Check.due(full, 3, "clear");
        Check.write(full, "<zz>");
        Check.unsupported(full, "expand");
        full.clear();
        expandDue(full, 1, "<B>");
        Check.due(full, 60, "count", 0);
    }

    private static void expandDue(NameRules book, int want, String text) {
        Check.write(book, text);
        Check.due(book, want, "expand");
    }

    /** "A", "B", .. by codes, 60 in all: name 'a' - 'A' is "a". */
    private static NameRules sixtyNames() {
        NameRules book = new NameRules();
        for (int i = 0; i < 60; i++) {
            book.type('A' + i);
            Check.due(book, i, "name");
        }
        return book;
    }
}
