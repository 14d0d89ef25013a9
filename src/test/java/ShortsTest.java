/** Promises 6 to 11: shorts and spaces, shorts proposed, names printed. */
public final class ShortsTest {
    public static void main(String[] args) {
        promise6Prefix();
        promise6PrefixForms();
        promise6PrefixWrong();
        promise7Space();
        promise7SpaceAsShortsCome();
        promise7LongestSpaceIsNoMatterOfNumbers();
        promise8Best();
        promise9Propose();
        promise9ProposeWhenTaken();
        promise9ProposeNumbers();
        promise10Print();
        promise11Letter();
        Check.finish();
    }

    private static void promise6Prefix() {
        NameRules book = Check.bookOf("http/", "h", "ht", "ftp/", "http/x");
        Check.due(book, 1, "prefix", 0, 1);
        Check.due(book, 1, "prefix", 0, 1);
        Check.due(book, 1, "count", 1);
        Check.due(book, 1, "count", 2);
        Check.due(book, 1, "prefix", 0, 2);
        Check.due(book, 1, "count", 1);
        Check.due(book, 2, "count", 2);
        Check.clashDue(book, 0, -1, -1);
        Check.due(book, 0, "prefix", 3, 1);
        Check.clashDue(book, 1, 0, 3);
        Check.due(book, 1, "count", 1);
        Check.due(book, 0, "space", 4);
        Check.due(book, 1, "prefix", 0, 1);
        Check.clashDue(book, 1, 0, 3);
        Check.names(book, "o");
        Check.due(book, 1, "prefix", 1, 5);
        Check.due(book, 2, "count", 1);
        Check.due(book, 3, "count", 2);
    }

    private static void promise6PrefixForms() {
        NameRules book = Check.bookOf("space", "a", "z", "a0", "z9zz", "abcd");
        for (int form = 1; form <= 5; form++) {
            Check.due(book, 1, "prefix", 0, form);
        }
        Check.due(book, 5, "count", 2);
        NameRules mutual = Check.bookOf("a", "b");
        Check.due(mutual, 1, "prefix", 0, 1);
        Check.due(mutual, 1, "prefix", 1, 0);
        Check.due(mutual, 2, "count", 1);
        Check.due(mutual, 2, "count", 2);
    }

    private static void promise6PrefixWrong() {
        NameRules book = Check.bookOf("s", "abcde", "A", "aB", "0", "0a", "a-", "a:b", "a_", "`", "{", "a/", "a`", "a{");
        for (int form = 1; form <= 13; form++) {
            Check.badArgument(book, "prefix", 0, form);
        }
        Check.badArgument(book, "prefix", 0, 0);
        Check.badArgument(book, "prefix", 1, 1);
        Check.outOfBounds(book, "prefix", -1, 0);
        Check.outOfBounds(book, "prefix", 14, 0);
        Check.outOfBounds(book, "prefix", 0, -1);
        Check.outOfBounds(book, "prefix", 0, 14);
        Check.outOfBounds(book, "prefix", 14, 14);
        Check.due(book, 0, "count", 1);
        Check.due(book, 0, "count", 2);
    }

    private static void promise7Space() {
        NameRules book = Check.bookOf("a/", "a/b/", "p", "q", "a/b/c", "a/bc", "b/a/", "a");
        Check.due(book, -1, "space", 4);
        book.prefix(0, 2);
        Check.due(book, 0, "space", 4);
        Check.due(book, 0, "space", 1);
        book.prefix(1, 3);
        Check.due(book, 1, "space", 4);
        Check.due(book, 0, "space", 5);
        Check.due(book, 0, "space", 1);
        Check.due(book, -1, "space", 0);
        Check.due(book, -1, "space", 6);
        Check.due(book, -1, "space", 7);
        Check.outOfBounds(book, "space", -1);
        Check.outOfBounds(book, "space", 8);
    }

    private static void promise7SpaceAsShortsCome() {
        NameRules book = Check.bookOf("xyz", "x", "xy", "s", "t", "u");
        book.prefix(2, 3);
        Check.due(book, 2, "space", 0);
        book.prefix(1, 4);
        Check.due(book, 2, "space", 0);
        Check.due(book, 1, "space", 2);
        book.prefix(0, 5);
        Check.due(book, 2, "space", 0);
    }

    private static void promise7LongestSpaceIsNoMatterOfNumbers() {
        NameRules book = Check.bookOf("xy", "x", "xyz", "s", "t", "xz");
        book.prefix(0, 3);
        book.prefix(1, 4);
        Check.due(book, 0, "space", 2);
        Check.due(book, 3, "best", 2);
        Check.printedDue(book, "s:z", "print", 2);
        Check.due(book, 1, "space", 5);
        Check.due(book, 1, "space", 0);
    }

    private static void promise8Best() {
        NameRules book = Check.bookOf("sp", "zz", "b1", "a", "ba", "spx", "other");
        Check.due(book, -1, "best", 5);
        book.prefix(0, 1);
        Check.due(book, 1, "best", 5);
        book.prefix(0, 4);
        Check.due(book, 4, "best", 5);
        book.prefix(0, 2);
        Check.due(book, 2, "best", 5);
        book.prefix(0, 3);
        Check.due(book, 3, "best", 5);
        Check.due(book, -1, "best", 0);
        Check.due(book, -1, "best", 6);
        Check.outOfBounds(book, "best", -1);
        Check.outOfBounds(book, "best", 7);
        NameRules longer = Check.bookOf("sp", "z", "aa", "spx");
        longer.prefix(0, 1);
        longer.prefix(0, 2);
        Check.due(longer, 1, "best", 3);
    }

    private static void promise9Propose() {
        NameRules book = Check.bookOf("http://ab/Xyz#", "123", "aB1c2", "Z", "a[b", "x@y`", "AZaz{9", "k");
        String[] due = {"x", "n", "c", "z", "b", "y", "a", "k"};
        for (int i = 0; i < due.length; i++) {
            Check.printedDue(book, due[i], "propose", i);
        }
        Check.outOfBounds(book, "propose", -1);
        Check.outOfBounds(book, "propose", 8);
        Check.same("written", Check.printed(book), "k");
        Check.due(book, 8, "count", 0);
        Check.due(book, 0, "count", 2);
    }

    private static void promise9ProposeWhenTaken() {
        NameRules book = Check.bookOf("!", "a/VOCAB", "v", "vo", "voc", "voca", "v1", "ab", "a", "1");
        Check.printedDue(book, "v", "propose", 1);
        String[] next = {"vo", "voc", "voca", "v1", "v2"};
        for (int i = 0; i < next.length; i++) {
            book.prefix(0, 2 + i);
            Check.printedDue(book, next[i], "propose", 1);
        }
        book.prefix(0, 7);
        Check.printedDue(book, "a", "propose", 7);
        book.prefix(0, 8);
        Check.printedDue(book, "a1", "propose", 7);
        Check.printedDue(book, "n", "propose", 9);
    }

    private static void promise9ProposeNumbers() {
        NameRules book = Check.bookOf("9", "n");
        book.prefix(0, 1);
        for (int number = 1; number <= 57; number++) {
            Check.printedDue(book, "n" + number, "propose", 0);
            Check.write(book, "n" + number);
            book.prefix(0, book.name());
        }
        Check.printedDue(book, "n58", "propose", 0);
    }

    private static void promise10Print() {
        NameRules book = Check.bookOf("s/", "sp", "s/rest", "s/<:>", "abcdefghijklmnopqrstuvwx", "a", "long");
        Check.printedDue(book, "<s/rest>", "print", 2);
        book.prefix(0, 1);
        Check.printedDue(book, "sp:rest", "print", 2);
        Check.printedDue(book, "sp:<:>", "print", 3);
        Check.printedDue(book, "<s/>", "print", 0);
        Check.printedDue(book, "<abcdefghijklmnopqrstuvwx>", "print", 4);
        book.prefix(5, 6);
        Check.printedDue(book, "long:bcdefghijklmnopqrstuvwx", "print", 4);
        Check.outOfBounds(book, "print", -1);
        Check.outOfBounds(book, "print", 7);
        Check.same("written", Check.printed(book), "long:bcdefghijklmnopqrstuvwx");
    }

    private static void promise11Letter() {
        NameRules book = Check.bookOf("abc");
        Check.due(book, 0, "letter", 0);
        book.print(0);
        int[] due = {'<', 'a', 'b', 'c', '>', 0};
        for (int i = 0; i < due.length; i++) {
            Check.due(book, due[i], "letter", i);
        }
        book.propose(0);
        Check.due(book, 'a', "letter", 0);
        Check.due(book, 0, "letter", 1);
        int[] none = {-1, 28, 29, Integer.MAX_VALUE, Integer.MIN_VALUE};
        for (int i : none) {
            Check.due(book, 0, "letter", i);
        }
        book.type('x');
        book.name();
        Check.due(book, 'a', "letter", 0);
    }
}
