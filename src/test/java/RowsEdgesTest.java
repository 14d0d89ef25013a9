/**
 * Promises 12 to 19, and rows, unknown names and how far names are apart under 'Terms': a test for
 * each sentence that names an edge. The sentence stands above its test.
 */
public final class RowsEdgesTest {
    private static final int[] NO_PLACES = {-1, -2, Integer.MIN_VALUE};
    private static final String ABC24 = "abcdefghijklmnopqrstuvwx";

    public static void main(String[] args) {
        promise12FortyRows();
        promise12FullIsAskedBehindTheClash();
        promise12Clash();
        termsNoTwoOfTheSameTerm();
        promise12TermHasNoSpace();
        promise12DomainAndRangeNeedNoSpace();
        promise12NoSuchName();
        promise12OrderOfWhatIsThrown();
        promise12TermThatLostItsSpace();
        promise13TermDomainRange();
        promise13AnotherWhat();
        promise13NoSuchRow();
        promise13OrderOfWhatIsThrown();
        promise14NotSoMany();
        promise14AsSpacesAreNow();
        promise14ByTheOrderOfTheirTerms();
        promise14BelowZeroOrNoSuchName();
        promise15OnceMore();
        promise15NoSuchName();
        promise16NeverUsed();
        promise16NoSuchName();
        promise17WasUsed();
        promise17HasASpace();
        promise17IsNoRowsTerm();
        promise17SomeRowsTermHasTheSameSpace();
        promise17ByTheirNumbers();
        promise17NotSoMany();
        promise17BelowZero();
        promise18TheSame();
        promise18OneStep();
        promise18LeastNumber();
        promise18MostSteps();
        promise18NoSuchName();
        promise19ByHowFar();
        promise19OfTheSameTheLesserNumber();
        promise19NotSoMany();
        promise19AllRows();
        promise19BelowZeroOrNoSuchName();
        Check.finish();
    }

    /** 0 "s", 1 "t" a short of it, 2 "o", and from 3 on so many terms "sA", "sB", .. */
    private static Run terms(int terms) {
        Run run = Run.of("s", "t", "o").then("prefix", 0, 1);
        for (int i = 0; i < terms; i++) {
            run.names("s" + (char) ('A' + i));
        }
        return run;
    }

    private static Run rows(int terms, int rows) {
        Run run = terms(terms);
        for (int i = 0; i < rows; i++) {
            run.then("row", 3 + i, 0, 2);
        }
        return run;
    }

    // "ROWS of the vocabulary are numbered from 0 on, at most 40" and "UnsupportedOperationException: there are 40"
    private static void promise12FortyRows() {
        Run run = terms(42);
        for (int i = 0; i < 40; i++) {
            run.due(i, "row", 3 + i, 0, 2);
        }
        run.due(40, "count", 3);
        run.unsupported("row", 43, 0, 2);
        run.unsupported("row", 44, 44, 44);
        run.due(42, "told", 39, 0);
        run.outOfBounds("told", 40, 0);
    }

    // "there are 40 (asked behind the clash)."
    private static void promise12FullIsAskedBehindTheClash() {
        Run run = rows(41, 40);
        run.clashes(-1, new int[] {2, 0, 3}, "row", 3, 0, 0);
        run.clashes(-40, new int[] {2, 39, 42}, "row", 42, 0, 0);
        run.unsupported("row", 43, 0, 0);
        run.clashDue(2, 39, 42);
    }

    // "-1 less the number of the row that the term has for clash 2" and "2 a row of a term that has one: that row, the term."
    private static void promise12Clash() {
        Run run = rows(3, 2);
        run.clashes(-1, new int[] {2, 0, 3}, "row", 3, 1, 1);
        run.clashes(-2, new int[] {2, 1, 4}, "row", 4, 0, 2);
        run.due(2, "row", 5, 3, 3);
        run.clashes(-3, new int[] {2, 2, 5}, "row", 5, 3, 3);
        run.due(3, "count", 3);
    }

    // "no two of the same term." - nor by a rename; a domain or a range may be another row's term.
    private static void termsNoTwoOfTheSameTerm() {
        Run run = rows(4, 2);
        run.due(2, "row", 5, 3, 4);
        run.clashes(-1, new int[] {2, 0, 3}, "row", 3, 5, 6);
        run.clashes(-1, new int[] {4, 0, 1}, "rename", 3, 4);
        run.due(2, "rename", 3, 6);
        run.clashes(-1, new int[] {2, 0, 6}, "row", 6, 0, 0);
        run.due(3, "row", 3, 0, 0);
        run.due(4, "count", 3);
    }

    // "IllegalStateException: the term has no space"
    private static void promise12TermHasNoSpace() {
        Run run = terms(1);
        run.badState("row", 0, 3, 3);
        run.badState("row", 1, 3, 3);
        run.badState("row", 2, 3, 3);
        Run without = Run.of("s", "t", "sA");
        without.badState("row", 2, 0, 0);
        without.then("prefix", 0, 1).due(0, "row", 2, 0, 0);
    }

    // "IllegalStateException: the term has no space" - the others need none, and all may be one.
    private static void promise12DomainAndRangeNeedNoSpace() {
        Run run = terms(3);
        run.due(0, "row", 3, 2, 2);
        run.due(1, "row", 4, 4, 4);
        run.due(2, "row", 5, 0, 1);
        run.due(1, "told", 2, 2);
    }

    // "IndexOutOfBoundsException: there is no name .. of a number that is told"
    private static void promise12NoSuchName() {
        Run run = terms(1);
        for (int wrong : new int[] {-1, 4, 59, 60, Integer.MAX_VALUE, Integer.MIN_VALUE}) {
            run.outOfBounds("row", wrong, 0, 0);
            run.outOfBounds("row", 3, wrong, 0);
            run.outOfBounds("row", 3, 0, wrong);
        }
        run.due(0, "row", 3, 3, 0);
    }

    // "IndexOutOfBoundsException; IllegalStateException: ..; UnsupportedOperationException: .." - the first of these.
    private static void promise12OrderOfWhatIsThrown() {
        Run run = rows(41, 40);
        run.outOfBounds("row", 2, 44, 0);
        run.outOfBounds("row", 2, 0, 44);
        run.outOfBounds("row", 3, -1, 0);
        run.outOfBounds("row", 3, 0, 44);
        run.outOfBounds("row", 43, 0, -1);
        run.badState("row", 2, 0, 0);
        run.badState("row", 0, 0, 0);
    }

    // "IllegalStateException: the term has no space" - nor a row more, when a rename has made it a term.
    private static void promise12TermThatLostItsSpace() {
        Run run = rows(1, 1).then("rename", 3, 2);
        run.badState("row", 2, 0, 0);
        run.due(1, "row", 3, 0, 0);
    }

    // "its term (what = 0), domain (1), range (2)." - of the first row and of the last of 40.
    private static void promise13TermDomainRange() {
        Run run = rows(41, 39).then("row", 42, 43, 1);
        int[][] due = {{3, 0, 2}, {42, 43, 1}};
        for (int what = 0; what <= 2; what++) {
            run.sameBehind(due[0][what], "told", 0, what);
            run.sameBehind(due[1][what], "told", 39, what);
        }
    }

    // "IllegalArgumentException: another what."
    private static void promise13AnotherWhat() {
        Run run = rows(2, 1).then("row", 4, 1, 3);
        for (int wrong : new int[] {-1, 3, 4, Integer.MAX_VALUE, Integer.MIN_VALUE}) {
            run.badArgument("told", 0, wrong);
            run.badArgument("told", 1, wrong);
        }
        int[] due = {3, 0, 2, 4, 1, 3};
        for (int i = 0; i < due.length; i++) {
            run.due(due[i], "told", i / 3, i % 3);
        }
    }

    // "IndexOutOfBoundsException: there is no .. row, of a number that is told"
    private static void promise13NoSuchRow() {
        Run run = terms(2);
        run.outOfBounds("told", 0, 0);
        run.outOfBounds("told", -1, 0);
        run.then("row", 3, 0, 2);
        for (int wrong : new int[] {-1, 1, 2, 39, 40, Integer.MAX_VALUE, Integer.MIN_VALUE}) {
            for (int what = 0; what <= 2; what++) {
                run.outOfBounds("told", wrong, what);
            }
        }
        Run full = rows(40, 40);
        full.outOfBounds("told", 40, 0);
        full.due(42, "told", 39, 0);
    }

    // "IndexOutOfBoundsException; IllegalArgumentException: another what."
    private static void promise13OrderOfWhatIsThrown() {
        Run run = rows(1, 1);
        run.outOfBounds("told", 1, 3);
        run.outOfBounds("told", -1, -1);
        run.outOfBounds("told", Integer.MAX_VALUE, Integer.MAX_VALUE);
    }

    // "the number of row i, from 0; NONE when there are not so many."
    private static void promise14NotSoMany() {
        Run run = terms(2);
        run.due(-1, "document", 0, 0);
        run.then("row", 3, 0, 2);
        run.due(0, "document", 0, 0);
        run.due(-1, "document", 0, 1);
        run.then("row", 4, 0, 2);
        run.due(1, "document", 0, 1);
        run.due(-1, "document", 0, 2);
        run.due(-1, "document", 0, Integer.MAX_VALUE);
        for (int noSpace = 1; noSpace <= 4; noSpace++) {
            run.due(-1, "document", noSpace, 0);
        }
        Run full = rows(40, 40);
        full.due(39, "document", 0, 39);
        full.due(-1, "document", 0, 40);
    }

    // "Of the rows whose terms have this name as their space (as spaces are now)"
    private static void promise14AsSpacesAreNow() {
        Run run = rows(1, 1).names("sAx", "u").then("row", 4, 0, 0);
        run.due(0, "document", 0, 0);
        run.due(1, "document", 0, 1);
        run.due(-1, "document", 3, 0);
        run.then("prefix", 3, 5);
        run.due(0, "document", 0, 0);
        run.due(-1, "document", 0, 1);
        run.due(1, "document", 3, 0);
        run.due(-1, "document", 3, 1);
        run.then("rename", 4, 2);
        run.due(-1, "document", 3, 0);
        run.due(-1, "document", 0, 1);
    }

    // "by the order of their terms" and "by their codes, a beginning before what goes on."
    private static void promise14ByTheOrderOfTheirTerms() {
        Run run = Run.of("s", "t", "s~", "sb", "saa", "sa", "sA", "s1", "s!", "sab", "s~~").then("prefix", 0, 1);
        int[] inOrder = {8, 7, 6, 5, 4, 9, 3, 2, 10};
        for (int term = 2; term <= 10; term++) {
            run.then("row", term, 0, 0);
        }
        for (int i = 0; i < inOrder.length; i++) {
            run.due(inOrder[i] - 2, "document", 0, i);
        }
        run.names("s0").then("rename", 2, 11);
        run.due(6, "document", 0, 0);
        run.due(0, "document", 0, 1);
        run.due(5, "document", 0, 2);
        run.due(8, "document", 0, 8);
    }

    // "IndexOutOfBoundsException: there is no name .. of a number that is told, or i is below 0."
    private static void promise14BelowZeroOrNoSuchName() {
        placesAndNames("document");
    }

    // "A name is used once more: how often it was."
    private static void promise15OnceMore() {
        Run run = Run.of("a", "b");
        for (int i = 1; i <= 507; i++) {
            run.due(i, "use", 0);
        }
        run.due(0, "used", 1);
        Run full = Run.ofLetters(60);
        full.due(1, "use", 59);
        full.due(2, "use", 59);
        full.due(1, "use", 0);
    }

    // "IndexOutOfBoundsException."
    private static void promise15NoSuchName() {
        noSuchName("use");
    }

    // "How often a name was used."
    private static void promise16NeverUsed() {
        Run run = Run.of("a", "b");
        run.sameBehind(0, "used", 0);
        run.then("use", 0).then("use", 0);
        run.sameBehind(2, "used", 0);
        run.due(0, "used", 1);
        run.names("c");
        run.due(0, "used", 2);
    }

    // "IndexOutOfBoundsException."
    private static void promise16NoSuchName() {
        noSuchName("used");
    }

    // "A name is UNKNOWN, if it was used"
    private static void promise17WasUsed() {
        Run run = rows(2, 1);
        run.due(-1, "unknown", 0);
        run.due(0, "count", 6);
        run.then("use", 4);
        run.due(4, "unknown", 0);
        run.due(1, "count", 6);
        run.then("rename", 4, 2);
        run.due(1, "used", 2);
        run.due(-1, "unknown", 0);
        run.due(0, "count", 6);
    }

    // "has a space"
    private static void promise17HasASpace() {
        Run run = rows(2, 1).then("use", 0).then("use", 1).then("use", 2);
        run.due(-1, "unknown", 0);
        run.due(0, "count", 6);
        Run lost = rows(1, 1).then("rename", 3, 2).then("use", 0).then("use", 1);
        lost.due(-1, "unknown", 0);
        lost.due(0, "count", 6);
    }

    // "and is no row's term" - a domain or a range is none.
    private static void promise17IsNoRowsTerm() {
        Run run = terms(3).then("use", 3).then("use", 4).then("use", 5).then("row", 3, 4, 5);
        run.due(4, "unknown", 0);
        run.due(5, "unknown", 1);
        run.due(2, "count", 6);
        run.then("row", 4, 4, 5);
        run.due(5, "unknown", 0);
        run.due(1, "count", 6);
        run.then("row", 5, 5, 5);
        run.due(-1, "unknown", 0);
        run.due(0, "count", 6);
    }

    // "but some row's term has the same space."
    private static void promise17SomeRowsTermHasTheSameSpace() {
        Run run = terms(2).names("sAx", "u", "sAy").then("use", 7);
        run.due(-1, "unknown", 0);
        run.then("row", 4, 7, 7);
        run.due(7, "unknown", 0);
        run.then("prefix", 3, 6);
        run.due(-1, "unknown", 0);
        run.due(0, "count", 6);
        run.then("row", 5, 0, 0);
        run.due(7, "unknown", 0);
        run.due(1, "count", 6);
        run.then("rename", 5, 2);
        run.due(-1, "unknown", 0);
        run.due(0, "count", 6);
        Run lastTermGone = rows(2, 1).then("use", 4);
        lastTermGone.due(4, "unknown", 0);
        lastTermGone.then("rename", 3, 2);
        lastTermGone.due(-1, "unknown", 0);
        lastTermGone.due(0, "count", 6);
    }

    // "The unknown name i, from 0, by their numbers" - the first and the last of 60 names too.
    private static void promise17ByTheirNumbers() {
        Run ends = Run.of("sa", "s", "t", "sb").then("prefix", 1, 2).then("row", 3, 0, 0);
        for (int i = 0; i < 55; i++) {
            ends.names(String.valueOf((char) ('!' + i)));
        }
        ends.names("sz").then("use", 59).then("use", 0);
        ends.due(2, "count", 6);
        ends.due(0, "unknown", 0);
        ends.due(59, "unknown", 1);
        ends.due(-1, "unknown", 2);
        Run run = rows(4, 1).then("use", 6).then("use", 6).then("use", 4).then("use", 5);
        for (int i = 0; i < 3; i++) {
            run.due(4 + i, "unknown", i);
        }
    }

    // "NONE when there are not so many."
    private static void promise17NotSoMany() {
        Run run = rows(3, 1).then("use", 4);
        run.due(4, "unknown", 0);
        run.due(-1, "unknown", 1);
        run.then("use", 5);
        run.due(5, "unknown", 1);
        run.due(-1, "unknown", 2);
        run.due(-1, "unknown", Integer.MAX_VALUE);
        Run full = rows(57, 1);
        for (int name = 4; name < 60; name++) {
            full.then("use", name);
        }
        full.due(56, "count", 6);
        full.due(59, "unknown", 55);
        full.due(-1, "unknown", 56);
        full.due(-1, "unknown", 60);
    }

    // "IndexOutOfBoundsException: .. i is below 0."
    private static void promise17BelowZero() {
        Run run = rows(2, 1).then("use", 4);
        for (int i : NO_PLACES) {
            run.outOfBounds("unknown", i);
            new Run().outOfBounds("unknown", i);
        }
    }

    // "the least number of steps that make one of them the other" - none.
    private static void promise18TheSame() {
        Run run = Run.of("a", ABC24);
        run.sameBehind(0, "apart", 0, 0);
        run.sameBehind(0, "apart", 1, 1);
    }

    // "each of which puts in, takes out or changes one character."
    private static void promise18OneStep() {
        Run run = Run.of("abc", "xabc", "abxc", "abcx", "bc", "ac", "ab", "xbc", "axc", "abx", "aBc");
        for (int other = 1; other <= 10; other++) {
            run.due(1, "apart", 0, other);
            run.due(1, "apart", other, 0);
        }
    }

    // "the least number of steps"
    private static void promise18LeastNumber() {
        Run run = Run.of("ab", "ba", "abcd", "bcda", "kitten", "sitting", "aaaa", "aa", "a-b-c", "abc");
        int[][] due = {{0, 1, 2}, {2, 3, 2}, {4, 5, 3}, {6, 7, 2}, {8, 9, 2}, {0, 2, 2}, {1, 2, 3}, {6, 2, 3}};
        for (int[] row : due) {
            run.due(row[2], "apart", row[0], row[1]);
            run.due(row[2], "apart", row[1], row[0]);
        }
    }

    // "1 to 24 characters" - the names that are farthest apart.
    private static void promise18MostSteps() {
        Run run = Run.of(ABC24, "Z".repeat(24), "!", "a", "x", ABC24.substring(1), ABC24.substring(0, 23));
        int[][] due = {{0, 1, 24}, {0, 2, 24}, {0, 3, 23}, {0, 4, 23}, {2, 3, 1}, {0, 5, 1}, {0, 6, 1}, {5, 6, 2}, {1, 2, 24}};
        for (int[] row : due) {
            run.due(row[2], "apart", row[0], row[1]);
            run.due(row[2], "apart", row[1], row[0]);
        }
    }

    // "IndexOutOfBoundsException."
    private static void promise18NoSuchName() {
        Run run = Run.of("a", "b");
        for (int wrong : new int[] {-1, 2, 59, 60, Integer.MAX_VALUE, Integer.MIN_VALUE}) {
            run.outOfBounds("apart", wrong, 0);
            run.outOfBounds("apart", 0, wrong);
            run.outOfBounds("apart", wrong, wrong);
        }
        Run full = Run.ofLetters(60);
        full.outOfBounds("apart", 60, 59);
        full.outOfBounds("apart", 59, 60);
        full.due(1, "apart", 58, 59);
    }

    // "by how far their terms are apart from a name"
    private static void promise19ByHowFar() {
        Run run = Run.of("s", "t", "sabcd", "sabc", "sab", "sa", "sxxxxx").then("prefix", 0, 1);
        for (int term = 6; term >= 2; term--) {
            run.then("row", term, 0, 0);
        }
        int[] fromSabcd = {4, 3, 2, 1, 0, -1};
        int[] fromSa = {1, 2, 3, 4, 0, -1};
        for (int i = 0; i < 6; i++) {
            run.due(fromSabcd[i], "near", 2, i);
            run.due(fromSa[i], "near", 5, i);
        }
    }

    // "of the same the lesser number first"
    private static void promise19OfTheSameTheLesserNumber() {
        Run run = rows(5, 0).then("row", 7, 0, 0).then("row", 5, 0, 0).then("row", 3, 0, 0).then("row", 6, 0, 0);
        for (int i = 0; i < 4; i++) {
            run.due(i, "near", 4, i);
            run.due(i, "near", 0, i);
        }
        int[] fromTheThird = {2, 0, 1, 3};
        for (int i = 0; i < 4; i++) {
            run.due(fromTheThird[i], "near", 3, i);
        }
    }

    // "the number of row i, from 0; NONE when there are not so many."
    private static void promise19NotSoMany() {
        Run run = terms(2);
        run.due(-1, "near", 0, 0);
        run.then("row", 3, 0, 0);
        run.due(0, "near", 0, 0);
        run.due(-1, "near", 0, 1);
        run.then("row", 4, 0, 0);
        run.due(1, "near", 0, 1);
        run.due(-1, "near", 0, 2);
        run.due(-1, "near", 0, Integer.MAX_VALUE);
        Run full = rows(40, 40);
        full.due(39, "near", 0, 39);
        full.due(-1, "near", 0, 40);
        full.due(39, "near", 42, 0);
    }

    // "Of all rows" - of each space, and of terms that have none now.
    private static void promise19AllRows() {
        Run run = rows(1, 1).names("q", "r", "qA").then("prefix", 4, 5).then("row", 6, 0, 0).then("rename", 3, 2);
        run.due(0, "near", 2, 0);
        run.due(1, "near", 2, 1);
        run.due(1, "near", 6, 0);
        run.due(0, "near", 6, 1);
    }

    // "IndexOutOfBoundsException: there is no name .. of a number that is told, or i is below 0."
    private static void promise19BelowZeroOrNoSuchName() {
        placesAndNames("near");
    }

    private static void placesAndNames(String method) {
        Run run = rows(2, 2);
        for (int wrong : new int[] {-1, 5, 59, 60, Integer.MAX_VALUE, Integer.MIN_VALUE}) {
            run.outOfBounds(method, wrong, 0);
        }
        for (int i : NO_PLACES) {
            run.outOfBounds(method, 0, i);
            run.outOfBounds(method, 1, i);
            run.outOfBounds(method, 5, i);
        }
        run.due(0, method, 0, 0);
        Run full = Run.ofLetters(60);
        full.outOfBounds(method, 60, 0);
        full.outOfBounds(method, 59, -1);
        full.due(-1, method, 59, 0);
    }

    private static void noSuchName(String method) {
        Run run = rows(2, 1).then("use", 4);
        for (int wrong : new int[] {-1, 5, 59, 60, Integer.MAX_VALUE, Integer.MIN_VALUE}) {
            run.outOfBounds(method, wrong);
        }
        Run full = Run.ofLetters(60);
        full.outOfBounds(method, 60);
        full.then(method, 59);
    }
}
