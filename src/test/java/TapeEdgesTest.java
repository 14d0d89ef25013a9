/**
 * Promises 1 to 5, and names and the tape under 'Terms': a test for each sentence that names an
 * edge. The sentence stands above its test.
 */
public final class TapeEdgesTest {
    private static final String X24 = "x".repeat(24);

    public static void main(String[] args) {
        promise1NoNames();
        promise1NoRows();
        promise1NoRenames();
        promise1EmptyTape();
        promise1NothingPrinted();
        promise1NoClash();
        promise1ObjectsShareNothing();
        termsNumbersInTheOrderInWhichTheyCome();
        termsNamesOfOneCharacter();
        termsNamesOfTwentyFourCharacters();
        termsCharacters();
        termsNoTwoTheSame();
        termsTapeOfTwentyFour();
        promise2HowManyItHas();
        promise2NotACharacter();
        promise2NotACharacterComesBeforeAFullTape();
        promise3HowManyItHad();
        promise3EmptyThen();
        promise4NameIsThere();
        promise4TapeIsEmptyThen();
        promise4EmptyTape();
        promise4SixtyFirst();
        promise4EmptyTapeComesBeforeSixtyFirst();
        promise5NameIsThere();
        promise5AsItIsPrinted();
        promise5Between();
        promise5SomethingBetween();
        promise5BeginningAndEnd();
        promise5BracketsComeBeforeTheColon();
        promise5FirstColon();
        promise5MustBeAShort();
        promise5AnyShortOfTheSpace();
        promise5SomethingBehind();
        promise5TapeIsEmptyThen();
        promise5EmptyTape();
        promise5MoreThanTwentyFour();
        promise5SixtyFirst();
        promise5OrderOfWhatIsThrown();
        Check.finish();
    }

    // "No names"
    private static void promise1NoNames() {
        Run run = new Run();
        run.due(0, "count", 0);
        for (String method : new String[] {"space", "best", "propose", "print", "use", "used", "meaning", "now", "was"}) {
            run.outOfBounds(method, 0);
        }
        for (String method : new String[] {"prefix", "document", "apart", "near", "alias", "rename"}) {
            run.outOfBounds(method, 0, 0);
        }
        run.outOfBounds("row", 0, 0, 0);
        run.outOfBounds("join", 0, 0, 0);
        run.due(0, "count", 1);
        run.due(0, "count", 2);
        run.due(0, "count", 6);
        run.due(-1, "unknown", 0);
        run.type("x").due(0, "name");
    }

    // "no rows"
    private static void promise1NoRows() {
        Run run = new Run();
        run.due(0, "count", 3);
        run.outOfBounds("told", 0, 0);
        run.names("x");
        run.due(-1, "document", 0, 0);
        run.due(-1, "near", 0, 0);
        run.due(-1, "unknown", 0);
    }

    // "no renames"
    private static void promise1NoRenames() {
        Run run = new Run();
        run.due(0, "count", 4);
        run.names("x", "y");
        run.due(0, "now", 0);
        run.due(0, "was", 0);
        run.due(1, "now", 1);
        run.due(1, "was", 1);
    }

    // "an empty tape"
    private static void promise1EmptyTape() {
        Run run = new Run();
        run.due(0, "count", 5);
        run.badState("name");
        run.badState("expand");
        run.due(0, "clear");
        run.due(1, "type", 'x');
    }

    // "nothing printed"
    private static void promise1NothingPrinted() {
        Run run = new Run();
        for (int i = -1; i <= 28; i++) {
            run.due(0, "letter", i);
        }
        run.names("x");
        run.due(0, "letter", 0);
    }

    // "no clash."
    private static void promise1NoClash() {
        new Run().clashDue(0, -1, -1);
    }

    // "No names, no rows, no renames; an empty tape, nothing printed, no clash." - whatever was made before.
    private static void promise1ObjectsShareNothing() {
        Run before = Run.of("s", "t", "sa").then("prefix", 0, 1).then("row", 2, 2, 2).then("row", 2, 2, 2);
        before.then("use", 2).then("alias", 0, 1).then("rename", 0, 2).then("print", 2).type("y");
        Run run = new Run();
        for (int what = 0; what <= 6; what++) {
            run.due(0, "count", what);
        }
        run.clashDue(0, -1, -1);
        run.due(0, "letter", 0);
        run.names("s", "t", "sa");
        run.due(-1, "space", 2);
        run.due(0, "used", 2);
        run.due(0, "meaning", 0);
        run.due(0, "now", 0);
        run.outOfBounds("told", 0, 0);
    }

    // "NAMES are numbered from 0 on in the order in which they come"
    private static void termsNumbersInTheOrderInWhichTheyCome() {
        Run run = new Run();
        run.type("z").due(0, "name");
        run.type("<a>").due(1, "expand");
        run.due(2, "join", 0, 1, 1);
        run.type("b").due(3, "name");
        run.printedDue("<z>", "print", 0);
        run.printedDue("<a>", "print", 1);
        run.printedDue("<z#a>", "print", 2);
        run.printedDue("<b>", "print", 3);
        run.outOfBounds("print", 4);
        run.outOfBounds("print", -1);
    }

    // "each a row of 1 to 24 characters" - one, and none.
    private static void termsNamesOfOneCharacter() {
        Run run = new Run();
        run.badState("name");
        run.type("a").due(0, "name");
        run.printedDue("<a>", "print", 0);
        run.type("<b>").due(1, "expand");
        run.printedDue("<b>", "print", 1);
        run.type("<>").badArgument("expand");
    }

    // "each a row of 1 to 24 characters" - 24 by each way on which a name comes, and 25 by none.
    private static void termsNamesOfTwentyFourCharacters() {
        Run typed = new Run().type(X24);
        typed.due(0, "name");
        typed.printedDue("<" + X24 + ">", "print", 0);
        typed.type(X24).unsupported("type", 'x');

        String y22 = "y".repeat(22);
        Run expanded = Run.of(y22, "y").then("prefix", 0, 1).type("y:ab");
        expanded.due(2, "expand");
        expanded.printedDue("y:ab", "print", 2);
        expanded.type("y:abc").unsupported("expand");

        Run joined = Run.of(y22, y22 + "/", "a", "bc");
        joined.due(4, "join", 0, 2, 1);
        joined.printedDue("<" + y22 + "#a>", "print", 4);
        joined.unsupported("join", 0, 3, 1);
        joined.due(5, "join", 1, 2, 0);
        joined.printedDue("<" + y22 + "/a>", "print", 5);
        joined.unsupported("join", 1, 3, 0);
    }

    // "characters 33 .. 126" - each of these is kept as it is, 24 on a tape.
    private static void termsCharacters() {
        Run run = new Run();
        int name = 0;
        for (int first = 33; first <= 126; first += 24) {
            StringBuilder text = new StringBuilder();
            for (int c = first; c < first + 24 && c <= 126; c++) {
                run.due(c - first + 1, "type", c);
                text.append((char) c);
            }
            run.due(name, "name");
            run.printedDue("<" + text + ">", "print", name);
            name++;
        }
    }

    // "no two the same."
    private static void termsNoTwoTheSame() {
        Run run = Run.of("ab", "aB", "a", "abc", "b", "ba", "s", "ab#a");
        run.then("prefix", 2, 6);
        String[] again = {"ab", "aB", "a", "abc", "b", "ba", "s"};
        for (int i = 0; i < again.length; i++) {
            run.type(again[i]).due(i, "name");
            run.type("<" + again[i] + ">").due(i, "expand");
        }
        run.type("s:bc").due(3, "expand");
        run.due(3, "join", 0, 3, 0);
        run.due(7, "join", 0, 2, 1);
        run.due(8, "count", 0);
    }

    // "THE TAPE has at most 24 characters." and "UnsupportedOperationException: the tape has 24."
    private static void termsTapeOfTwentyFour() {
        Run run = new Run().type("x".repeat(23));
        run.due(24, "type", 'y');
        run.unsupported("type", 'z');
        run.unsupported("type", 33);
        run.unsupported("type", 126);
        run.due(24, "count", 5);
        run.due(0, "name");
        run.printedDue("<" + "x".repeat(23) + "y>", "print", 0);
        run.type(X24).unsupported("type", 'x');
        run.due(24, "clear");
        run.type("<" + "x".repeat(22) + ">").unsupported("type", 'x');
        run.due(1, "expand");
        run.type(X24).unsupported("type", 'x');
    }

    // "A character comes behind the tape: how many it has."
    private static void promise2HowManyItHas() {
        Run run = new Run();
        run.due(1, "type", 'b');
        run.due(2, "type", 'a');
        run.due(3, "type", 'b');
        run.due(3, "count", 5);
        run.due(0, "name");
        run.printedDue("<bab>", "print", 0);
        run.due(1, "type", 'c');
    }

    // "IllegalArgumentException: it is not 33 .. 126" - the next ones, and those that wrap around to a good one.
    private static void promise2NotACharacter() {
        Run run = new Run().type("ab");
        int[] wrong = {32, 127, 0, -1, 10, 128, 255, -33, 'a' + 256, 'a' + 65536, 'a' - 65536, 'a' - 256,
            Integer.MIN_VALUE, Integer.MIN_VALUE + 'a', Integer.MAX_VALUE};
        for (int character : wrong) {
            run.badArgument("type", character);
        }
        run.due(3, "type", 33);
        run.due(4, "type", 126);
        run.due(0, "name");
        run.printedDue("<ab!~>", "print", 0);
    }

    // "IllegalArgumentException: it is not 33 .. 126; UnsupportedOperationException: the tape has 24."
    private static void promise2NotACharacterComesBeforeAFullTape() {
        Run run = new Run().type(X24);
        run.badArgument("type", 32);
        run.badArgument("type", 127);
        run.badArgument("type", -1);
    }

    // "The tape is empty then: how many characters it had."
    private static void promise3HowManyItHad() {
        Run run = new Run();
        run.sameBehind(0, "clear");
        run.type("a").due(1, "clear");
        run.type(X24).due(24, "clear");
        run.due(0, "clear");
        run.names("b").due(0, "clear");
    }

    // "The tape is empty then"
    private static void promise3EmptyThen() {
        Run run = new Run().type("abc").then("clear");
        run.due(0, "count", 5);
        run.due(0, "count", 0);
        run.badState("name");
        run.badState("expand");
        run.due(1, "type", 'd');
        run.due(0, "name");
        run.printedDue("<d>", "print", 0);
    }

    // "The name that the tape is, which comes if it is not there: its number"
    private static void promise4NameIsThere() {
        Run run = Run.of("ab", "a");
        run.type("a").due(1, "name");
        run.type("ab").due(0, "name");
        run.due(2, "count", 0);
        run.type("abc").due(2, "name");
        run.type("b").due(3, "name");
        run.due(4, "count", 0);
    }

    // "the tape is empty then."
    private static void promise4TapeIsEmptyThen() {
        Run run = new Run().type("ab").then("name");
        run.due(0, "count", 5);
        run.badState("name");
        run.type("ab").due(0, "name");
        run.due(0, "count", 5);
        run.badState("name");
    }

    // "IllegalStateException: the tape is empty"
    private static void promise4EmptyTape() {
        new Run().badState("name");
        Run.of("a").badState("name");
        new Run().type("a").then("clear").badState("name");
    }

    // "at most 60" and "UnsupportedOperationException: it would be the 61st."
    private static void promise4SixtyFirst() {
        Run run = Run.ofLetters(59).type("zz");
        run.due(59, "name");
        run.type("zy").unsupported("name");
        run.due(60, "count", 0);
        run.due(2, "clear");
        run.type("zz").due(59, "name");
        run.type("A").due(0, "name");
        run.type("~").unsupported("name");
        run.type("!".repeat(23)).unsupported("name");
        run.outOfBounds("print", 60);
    }

    // "IllegalStateException: the tape is empty; UnsupportedOperationException: it would be the 61st."
    private static void promise4EmptyTapeComesBeforeSixtyFirst() {
        Run.ofLetters(60).badState("name");
    }

    // "which comes if it is not there: its number"
    private static void promise5NameIsThere() {
        Run run = Run.of("sp", "b", "spx", "y").then("prefix", 0, 1);
        run.type("b:x").due(2, "expand");
        run.type("<spx>").due(2, "expand");
        run.type("<y>").due(3, "expand");
        run.due(4, "count", 0);
        run.type("b:y").due(4, "expand");
        run.type("<x>").due(5, "expand");
        run.due(6, "count", 0);
        run.printedDue("b:y", "print", 4);
        run.printedDue("<x>", "print", 5);
    }

    // "The name that the tape tells as it is printed" - as long as the tape can hold that.
    private static void promise5AsItIsPrinted() {
        Run run = Run.of("sp", "bcde", "sp" + "x".repeat(19), "spx", "y".repeat(22), "!", "sp:", "<>", ":");
        run.then("prefix", 0, 1);
        String[] printed = {"<sp>", "<bcde>", "bcde:" + "x".repeat(19), "bcde:x", "<" + "y".repeat(22) + ">", "<!>", "bcde::",
            "<<>>", "<:>"};
        for (int name = 0; name < printed.length; name++) {
            run.printedDue(printed[name], "print", name);
            run.type(printed[name]).due(name, "expand");
        }
        run.due(9, "count", 0);
    }

    // "With '<' at the beginning and '>' at the end, and something between, it is that"
    private static void promise5Between() {
        Run run = new Run();
        run.type("<a>").due(0, "expand");
        run.printedDue("<a>", "print", 0);
        run.type("<" + "b".repeat(22) + ">").due(1, "expand");
        run.printedDue("<" + "b".repeat(22) + ">", "print", 1);
        run.type("<<>").due(2, "expand");
        run.printedDue("<<>", "print", 2);
        run.type("<>>").due(3, "expand");
        run.printedDue("<>>", "print", 3);
        run.type("<><>").due(4, "expand");
        run.printedDue("<><>", "print", 4);
        run.type("<a>b>").due(5, "expand");
        run.printedDue("<a>b>", "print", 5);
        run.type("<a>").due(0, "expand");
    }

    // "and something between" and "IllegalArgumentException: it is neither so"
    private static void promise5SomethingBetween() {
        new Run().type("<>").badArgument("expand");
        Run.of("<>", "a").then("prefix", 0, 1).type("<>").badArgument("expand");
    }

    // "'<' at the beginning and '>' at the end" and "IllegalArgumentException: it is neither so"
    private static void promise5BeginningAndEnd() {
        for (String text : new String[] {"<", ">", "<a", "a>", "><", ">a<", "<a>b", "b<a>", "a", "ab", "<<", ">>", "(a)"}) {
            Run.of("a", "b").then("prefix", 0, 1).type(text).badArgument("expand");
        }
    }

    // "it is that; otherwise what stands before the first ':' must be a short"
    private static void promise5BracketsComeBeforeTheColon() {
        Run run = Run.of("sp", "b").then("prefix", 0, 1);
        run.type("<b:a>").due(2, "expand");
        run.printedDue("<b:a>", "print", 2);
        run.type("<:>").due(3, "expand");
        run.type("<b:>").due(4, "expand");
        run.printedDue("<b:>", "print", 4);
        run.type("b:a>").due(5, "expand");
        run.printedDue("b:a>", "print", 5);
        run.type("b:<a>").due(6, "expand");
        run.printedDue("b:<a>", "print", 6);
    }

    // "what stands before the first ':' must be a short: then its space and what stands behind that ':'"
    private static void promise5FirstColon() {
        Run run = Run.of("sp", "b", "b:c").then("prefix", 0, 1);
        run.type("b:c:d").due(3, "expand");
        run.printedDue("b:c:d", "print", 3);
        run.type("b::").due(4, "expand");
        run.printedDue("b::", "print", 4);
        run.type("b::c").due(5, "expand");
        run.printedDue("b::c", "print", 5);
        run.type("<sp:c>").due(5, "expand");
    }

    // "must be a short" and "IllegalArgumentException: it is neither so"
    private static void promise5MustBeAShort() {
        String[] wrong = {":x", ":", "::", "q:x", "n:x", "sp:x", "B:x", "bc:x", "bcde:x", "b", "bx", "x:b:y", "<b:x", "b;x"};
        for (String text : wrong) {
            Run.of("sp", "b", "bcd", "n", "x").then("prefix", 0, 1).then("prefix", 0, 2).type(text).badArgument("expand");
        }
    }

    // "a space may have several" shorts, and "what stands before the first ':' must be a short: then its space"
    private static void promise5AnyShortOfTheSpace() {
        Run run = Run.of("one/", "two/", "a", "abcd", "b", "one/x", "two/x");
        run.then("prefix", 0, 3).then("prefix", 0, 2).then("prefix", 1, 4);
        run.type("a:x").due(5, "expand");
        run.type("abcd:x").due(5, "expand");
        run.type("b:x").due(6, "expand");
        run.type("abcd:" + "y".repeat(19)).due(7, "expand");
    }

    // "what stands behind that ':' (something)" and "IllegalArgumentException: it is neither so"
    private static void promise5SomethingBehind() {
        Run run = Run.of("sp", "b").then("prefix", 0, 1).type("b:");
        run.badArgument("expand");
        run.then("type", 'c').due(2, "expand");
        run.printedDue("b:c", "print", 2);
    }

    // "the tape is empty then."
    private static void promise5TapeIsEmptyThen() {
        Run run = Run.of("sp", "b").then("prefix", 0, 1);
        for (String text : new String[] {"b:c", "b:c", "<spd>", "<spd>"}) {
            run.type(text).then("expand");
            run.due(0, "count", 5);
            run.badState("expand");
        }
    }

    // "IllegalStateException: the tape is empty"
    private static void promise5EmptyTape() {
        new Run().badState("expand");
        Run.of("a").badState("expand");
        new Run().type("<a>").then("clear").badState("expand");
    }

    // "UnsupportedOperationException: the name has more than 24 characters"
    private static void promise5MoreThanTwentyFour() {
        Run run = Run.of("x".repeat(22), "b").then("prefix", 0, 1).type("b:cd");
        run.due(2, "expand");
        run.printedDue("b:cd", "print", 2);
        run.type("b:cde").unsupported("expand");
        Run longest = Run.of(X24, "b").then("prefix", 0, 1).type("b:c");
        longest.unsupported("expand");
        longest.type("d".repeat(21)).unsupported("expand");
        longest.due(24, "count", 5);
        Run beginning = Run.of("x".repeat(23), "b", X24).then("prefix", 0, 1);
        beginning.type("b:x").due(2, "expand");
        beginning.type("b:xx").unsupported("expand");
    }

    // "or would be the 61st."
    private static void promise5SixtyFirst() {
        Run last = Run.ofLetters(59).then("prefix", 0, 'a' - 'A').type("a:b");
        last.due(59, "expand");
        last.type("a:b").due(59, "expand");
        last.type("<Ab>").due(59, "expand");
        last.type("a:c").unsupported("expand");
        Run between = Run.ofLetters(59).type("<zz>");
        between.due(59, "expand");
        between.type("<B>").due(1, "expand");
        between.type("<zy>").unsupported("expand");
        between.due(60, "count", 0);
    }

    // "IllegalStateException: ..; IllegalArgumentException: ..; UnsupportedOperationException: .." - the first of these.
    private static void promise5OrderOfWhatIsThrown() {
        Run.ofLetters(60).badState("expand");
        Run.ofLetters(60).type("<>").badArgument("expand");
        Run.ofLetters(60).type("a:b").badArgument("expand");
        Run.ofLetters(60).then("prefix", 0, 'a' - 'A').type("a:").badArgument("expand");
        Run.of(X24, "b").type("b:c").badArgument("expand");
    }
}
