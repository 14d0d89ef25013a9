/**
 * Promises 6 to 11, and shorts, spaces and what is printed under 'Terms': a test for each sentence
 * that names an edge. The sentence stands above its test.
 */
public final class ShortsEdgesTest {
    private static final String ABC24 = "abcdefghijklmnopqrstuvwx";

    public static void main(String[] args) {
        termsOneToFourCharacters();
        termsAllOfLettersAndDigits();
        termsTheFirstALetter();
        termsOfNoOtherSpace();
        termsShortsThatAreSpaces();
        termsBestHasTheFewestCharacters();
        termsBestIsTheFirstInOrder();
        termsLongestSpace();
        termsSpaceWithWhichItBegins();
        termsSpaceBehindWhichItGoesOn();
        termsOnlySpacesCount();
        termsRest();
        promise6Clash();
        promise6ClashIsNotAskedOfItsOwnSpace();
        promise6AlsoIfItIsOneOfThat();
        promise6BothAreOne();
        promise6NoSuchName();
        promise6OrderOfWhatIsThrown();
        promise7None();
        promise7NoSuchName();
        promise8None();
        promise8NoSuchName();
        promise9Letters();
        promise9LastRow();
        promise9NoLetters();
        promise9AllMadeSmall();
        promise9AsFarAsThereAreSuch();
        promise9FirstLetterAndNumbers();
        promise9NoShortOfAnySpace();
        promise9ChangesOnlyWhatIsPrinted();
        promise9NoSuchName();
        promise10LongestAndShortest();
        promise10NameOfASpace();
        promise10ChangesOnlyWhatIsPrinted();
        promise10NoSuchName();
        promise11NoneThere();
        promise11Latest();
        Check.finish();
    }

    // "a name can be a SHORT of another one if it has 1 to 4 characters" and "IllegalArgumentException: .. it can't be"
    private static void termsOneToFourCharacters() {
        Run run = Run.of("sp", "a", "ab", "abc", "abcd", "abcde", "abcdef", ABC24);
        for (int form = 1; form <= 4; form++) {
            run.due(1, "prefix", 0, form);
        }
        run.badArgument("prefix", 0, 5);
        run.badArgument("prefix", 0, 6);
        run.badArgument("prefix", 0, 7);
        run.due(4, "count", 2);
        run.due(1, "prefix", 5, 0);
    }

    // "all of a .. z and 0 .. 9"
    private static void termsAllOfLettersAndDigits() {
        Run good = Run.of("!", "az09", "z9", "a0", "q9a", "zzzz", "x999");
        for (int form = 1; form <= 6; form++) {
            good.due(1, "prefix", 0, form);
        }
        for (char wrong : "`{/:@[AZ!~-_#<".toCharArray()) {
            Run bad = Run.of("!", "a" + wrong, "ab" + wrong, "abc" + wrong, "a" + wrong + "b", "ab" + wrong + "c");
            for (int form = 1; form <= 5; form++) {
                bad.badArgument("prefix", 0, form);
            }
        }
    }

    // "the first a letter."
    private static void termsTheFirstALetter() {
        Run good = Run.of("!", "a", "z", "a1", "z1");
        for (int form = 1; form <= 4; form++) {
            good.due(1, "prefix", 0, form);
        }
        for (char wrong : "0519`{@[AZ/:#~".toCharArray()) {
            Run bad = Run.of("!!", String.valueOf(wrong), wrong + "b", wrong + "bcd");
            for (int form = 1; form <= 3; form++) {
                bad.badArgument("prefix", 0, form);
            }
        }
    }

    // "It is then a short of that one, its SPACE, and of no other"
    private static void termsOfNoOtherSpace() {
        Run run = Run.of("one", "two", "s", "onex", "twox").then("prefix", 0, 2);
        run.clashes(0, new int[] {1, 0, 1}, "prefix", 1, 2);
        run.due(0, "space", 3);
        run.due(-1, "space", 4);
        run.due(1, "count", 1);
        run.due(1, "count", 2);
    }

    // "a name can be a SHORT of another one" - of one that is a short too, or of one that is its own short.
    private static void termsShortsThatAreSpaces() {
        Run run = Run.of("a", "b", "c", "ax", "bx", "cx");
        run.due(1, "prefix", 0, 1);
        run.due(1, "prefix", 1, 0);
        run.due(1, "prefix", 1, 2);
        run.due(2, "count", 1);
        run.due(3, "count", 2);
        run.printedDue("b:x", "print", 3);
        run.printedDue("a:x", "print", 4);
        run.printedDue("<cx>", "print", 5);
        run.type("c:x").due(4, "expand");
    }

    // "a space may have several, of which THE BEST has the fewest characters"
    private static void termsBestHasTheFewestCharacters() {
        int[][] orders = {{1, 2, 3, 4}, {4, 3, 2, 1}, {2, 4, 1, 3}, {3, 1, 4, 2}};
        for (int[] order : orders) {
            Run run = Run.of("sp", "z", "yy", "bbb", "aaaa", "spx");
            int best = 99;
            for (int form : order) {
                run.then("prefix", 0, form);
                best = Math.min(best, form);
                run.due(best, "best", 5);
            }
            run.due(1, "count", 1);
            run.due(4, "count", 2);
        }
    }

    // "of these the first in order." and "THE ORDER of names is that of their characters by their codes"
    private static void termsBestIsTheFirstInOrder() {
        int[][] orders = {{1, 2, 3, 4}, {4, 3, 2, 1}, {2, 4, 1, 3}, {3, 1, 4, 2}};
        for (int[] order : orders) {
            Run run = Run.of("sp", "a09", "a10", "a1z", "az0", "spx");
            int best = 99;
            for (int form : order) {
                run.then("prefix", 0, form);
                best = Math.min(best, form);
                run.due(best, "best", 5);
            }
        }
        Run later = Run.of("sp", "b", "a", "spx").then("prefix", 0, 1).then("prefix", 0, 2);
        later.due(2, "best", 3);
        later.printedDue("a:x", "print", 3);
    }

    // "THE SPACE OF a name is the longest of all spaces"
    private static void termsLongestSpace() {
        String[] spaces = {"a/b", "a", "a/b/c"};
        int[][] orders = {{0, 1, 2}, {2, 1, 0}, {1, 0, 2}};
        for (int[] order : orders) {
            Run run = Run.of(spaces).names("p", "q", "r", "a/b/cd", "a/b/", "a/", "ab");
            int longest = order[0];
            for (int space : order) {
                run.then("prefix", space, 3 + space);
                longest = spaces[space].length() > spaces[longest].length() ? space : longest;
                run.due(longest, "space", 6);
                run.due(3 + longest, "best", 6);
            }
            run.due(0, "space", 7);
            run.due(1, "space", 8);
            run.due(1, "space", 9);
        }
        Run most = Run.of(ABC24.substring(0, 23), ABC24, "s", ABC24.substring(0, 22), "t");
        most.then("prefix", 3, 4).then("prefix", 0, 2);
        most.due(0, "space", 1);
        most.due(3, "space", 0);
        most.printedDue("s:x", "print", 1);
    }

    // "with which it begins"
    private static void termsSpaceWithWhichItBegins() {
        Run run = Run.of("abc", "s", "abd", "xabc", "abdc", "Abcd", "abcd", "aabc", "ab", "a");
        run.then("prefix", 0, 1);
        for (int name : new int[] {2, 3, 4, 5, 7, 8, 9}) {
            run.due(-1, "space", name);
        }
        run.due(0, "space", 6);
    }

    // "and behind which it goes on"
    private static void termsSpaceBehindWhichItGoesOn() {
        Run run = Run.of("abc", "s", "ab", "t", "abcd").then("prefix", 0, 1);
        run.due(-1, "space", 0);
        run.due(-1, "best", 0);
        run.due(0, "space", 4);
        run.then("prefix", 2, 3);
        run.due(2, "space", 0);
        run.due(3, "best", 0);
    }

    // "a space may have several" - a name without any is none, even if it is a beginning.
    private static void termsOnlySpacesCount() {
        Run run = Run.of("a", "ab", "abc", "s");
        run.due(-1, "space", 2);
        run.then("prefix", 0, 3);
        run.due(0, "space", 2);
        run.due(0, "space", 1);
        run.due(-1, "space", 3);
    }

    // "what goes on is its REST."
    private static void termsRest() {
        Run run = Run.of("ab", "s", "abab", "abs", "ab" + "c".repeat(22), "ab:").then("prefix", 0, 1);
        run.printedDue("s:ab", "print", 2);
        run.printedDue("s:s", "print", 3);
        run.printedDue("s:" + "c".repeat(22), "print", 4);
        run.printedDue("s::", "print", 5);
    }

    // "false for clash 1" and "1 a short is to get a second space: the space that it has, the one that it was to get."
    private static void promise6Clash() {
        Run run = Run.of("s", "one", "two", "three", "r").then("prefix", 2, 0).then("prefix", 1, 4);
        run.clashes(0, new int[] {1, 2, 1}, "prefix", 1, 0);
        run.clashes(0, new int[] {1, 2, 3}, "prefix", 3, 0);
        run.clashes(0, new int[] {1, 1, 0}, "prefix", 0, 4);
        run.clashes(0, new int[] {1, 2, 4}, "prefix", 4, 0);
        run.due(2, "count", 1);
        run.due(2, "count", 2);
    }

    // "true (also if it is one of that)" - behind a clash, too, which stays the latest.
    private static void promise6ClashIsNotAskedOfItsOwnSpace() {
        Run run = Run.of("s", "one", "two").then("prefix", 1, 0).then("prefix", 2, 0);
        run.sameBehind(1, "prefix", 1, 0);
        run.clashDue(1, 1, 2);
    }

    // "true (also if it is one of that)"
    private static void promise6AlsoIfItIsOneOfThat() {
        Run run = Run.of("one", "s", "a").then("prefix", 0, 1).then("prefix", 0, 2);
        run.sameBehind(1, "prefix", 0, 1);
        run.sameBehind(1, "prefix", 0, 2);
        run.due(1, "count", 1);
        run.due(2, "count", 2);
        run.clashDue(0, -1, -1);
    }

    // "IllegalArgumentException: both are one" - also when it has a space, and is not the one that clashes.
    private static void promise6BothAreOne() {
        Run run = Run.of("s", "one", "t");
        run.badArgument("prefix", 0, 0);
        run.badArgument("prefix", 1, 1);
        run.then("prefix", 1, 0);
        run.badArgument("prefix", 0, 0);
        run.due(1, "prefix", 0, 2);
        run.badArgument("prefix", 0, 0);
    }

    // "IndexOutOfBoundsException: there is no name .. of a number that is told"
    private static void promise6NoSuchName() {
        Run run = Run.of("one", "s");
        for (int wrong : new int[] {-1, 2, 59, 60, Integer.MAX_VALUE, Integer.MIN_VALUE}) {
            run.outOfBounds("prefix", wrong, 1);
            run.outOfBounds("prefix", 0, wrong);
        }
        run.due(1, "prefix", 0, 1);
        Run full = Run.ofLetters(60);
        full.outOfBounds("prefix", 60, 'a' - 'A');
        full.outOfBounds("prefix", 0, 60);
        full.due(1, "prefix", 59, 'a' - 'A');
    }

    // "IndexOutOfBoundsException; IllegalArgumentException: both are one, or it can't be a short."
    private static void promise6OrderOfWhatIsThrown() {
        Run run = Run.of("One", "s");
        run.outOfBounds("prefix", -1, -1);
        run.outOfBounds("prefix", 2, 2);
        run.outOfBounds("prefix", 2, 0);
        run.outOfBounds("prefix", -1, 0);
        run.badArgument("prefix", 0, 0);
        run.badArgument("prefix", 1, 0);
    }

    // "NONE without one." and "(It has none, if no space is so.)"
    private static void promise7None() {
        Run run = Run.of("one", "s", "two", "onex");
        run.due(-1, "space", 3);
        run.then("prefix", 0, 1);
        run.due(-1, "space", 0);
        run.due(-1, "space", 1);
        run.due(-1, "space", 2);
        run.due(0, "space", 3);
    }

    // "IndexOutOfBoundsException."
    private static void promise7NoSuchName() {
        noSuchName("space");
    }

    // "NONE without one."
    private static void promise8None() {
        Run run = Run.of("one", "s", "two", "onex");
        run.due(-1, "best", 3);
        run.then("prefix", 0, 1);
        run.due(-1, "best", 0);
        run.due(-1, "best", 1);
        run.due(-1, "best", 2);
        run.due(1, "best", 3);
    }

    // "IndexOutOfBoundsException."
    private static void promise8NoSuchName() {
        noSuchName("best");
    }

    // "letters (a .. z, A .. Z"
    private static void promise9Letters() {
        Run run = Run.of("a", "z", "A", "Z", "b@", "b[", "b`", "b{", "b0", "b9", "@c", "[c", "`c", "{c");
        String[] due = {"a", "z", "a", "z", "b", "b", "b", "b", "b", "b", "c", "c", "c", "c"};
        for (int i = 0; i < due.length; i++) {
            run.printedDue(due[i], "propose", i);
        }
    }

    // "its last row of letters (..; as long as can be"
    private static void promise9LastRow() {
        Run run = Run.of("one/two", "one/two/", "one/2", "1x2y3z4", "abc", "a-" + "b".repeat(22), "q" + "1".repeat(23),
                "1".repeat(23) + "r", "xYz:Pq#");
        String[] due = {"t", "t", "o", "z", "a", "b", "q", "r", "p"};
        for (int i = 0; i < due.length; i++) {
            run.printedDue(due[i], "propose", i);
        }
        run.names("t").then("prefix", 0, 9);
        run.printedDue("tw", "propose", 0);
        run.printedDue("tw", "propose", 1);
    }

    // "\"n\" if it has none"
    private static void promise9NoLetters() {
        Run run = Run.of("1", "!@[`{~", "9".repeat(24), "n", "na");
        for (int i = 0; i < 3; i++) {
            run.printedDue("n", "propose", i);
        }
        run.then("prefix", 0, 3);
        for (int i = 0; i < 4; i++) {
            run.printedDue("n1", "propose", i);
        }
        run.printedDue("na", "propose", 4);
    }

    // "all made small"
    private static void promise9AllMadeSmall() {
        Run run = Run.of("!", "ABYZ", "a", "ab", "aby");
        String[] due = {"a", "ab", "aby", "abyz"};
        for (int i = 0; i < due.length; i++) {
            run.printedDue(due[i], "propose", 1);
            if (i < 3) {
                run.then("prefix", 0, 2 + i);
            }
        }
    }

    // "the first letter, the first two, three, four, as far as there are such; then the first letter and 1"
    private static void promise9AsFarAsThereAreSuch() {
        String row = "vwxyz";
        for (int length = 1; length <= 5; length++) {
            Run run = Run.of("0", "0/" + row.substring(0, length));
            for (int taken = 1; taken <= Math.min(length, 4); taken++) {
                run.printedDue(row.substring(0, taken), "propose", 1);
                run.names(row.substring(0, taken));
                run.then("prefix", 0, 1 + taken);
            }
            run.printedDue("v1", "propose", 1);
        }
    }

    // "then the first letter and 1, 2, .. 99" - 59 are more than can be taken beside the space.
    private static void promise9FirstLetterAndNumbers() {
        int lastTaken = 57;
        for (int start = 1; start <= lastTaken; start += 28) {
            Run run = Run.of("7", "n").then("prefix", 0, 1);
            for (int number = 1; number <= lastTaken; number++) {
                if (number >= start && number < start + 28) {
                    run.printedDue("n" + number, "propose", 0);
                }
                run.names("n" + number).then("prefix", 0, 1 + number);
            }
            run.printedDue("n58", "propose", 0);
        }
        Run gap = Run.of("7", "n", "n1", "n3").then("prefix", 0, 1).then("prefix", 0, 3);
        gap.printedDue("n1", "propose", 0);
        gap.then("prefix", 0, 2);
        gap.printedDue("n2", "propose", 0);
    }

    // "of these the first one that is no short of any space (whether there is such a name or not)"
    private static void promise9NoShortOfAnySpace() {
        Run run = Run.of("one", "two", "o", "t", "on");
        run.printedDue("o", "propose", 0);
        run.then("prefix", 2, 3);
        run.printedDue("o", "propose", 0);
        run.then("prefix", 1, 2);
        run.printedDue("on", "propose", 0);
        run.printedDue("tw", "propose", 1);
        run.then("prefix", 0, 4);
        run.printedDue("one", "propose", 0);
        run.due(5, "count", 0);
    }

    // "A short for a name is proposed, and written in place of what was printed"
    private static void promise9ChangesOnlyWhatIsPrinted() {
        Run run = Run.of("long", "x").then("print", 0);
        run.printedDue("l", "propose", 0);
        run.due(2, "count", 0);
        run.due(0, "count", 1);
        run.due(0, "count", 2);
        run.sameBehind(1, "propose", 0);
    }

    // "IndexOutOfBoundsException."
    private static void promise9NoSuchName() {
        noSuchName("propose");
    }

    // "as the best short of that, ':' and the rest, another one as '<', it and '>'" - the least and the most of each.
    private static void promise10LongestAndShortest() {
        Run run = Run.of("a", "long", ABC24, "ab", "!", "~".repeat(24)).then("prefix", 0, 1);
        run.printedDue("long:" + ABC24.substring(1), "print", 2);
        run.printedDue("long:b", "print", 3);
        run.printedDue("<!>", "print", 4);
        run.printedDue("<" + "~".repeat(24) + ">", "print", 5);
        run.then("prefix", 0, 3);
        run.printedDue("ab:" + ABC24.substring(1), "print", 2);
        run.printedDue("ab:b", "print", 3);
    }

    // "PRINTED is a name that has a space as .., another one as '<', it and '>'" - a space without one too.
    private static void promise10NameOfASpace() {
        Run run = Run.of("ab", "s", "a", "t").then("prefix", 0, 1);
        run.printedDue("<ab>", "print", 0);
        run.printedDue("<s>", "print", 1);
        run.then("prefix", 2, 3);
        run.printedDue("t:b", "print", 0);
        run.printedDue("<a>", "print", 2);
    }

    // "A name is printed in place of what was"
    private static void promise10ChangesOnlyWhatIsPrinted() {
        Run run = Run.of("long", "x").type("tape").then("print", 0);
        run.printedDue("<x>", "print", 1);
        run.sameBehind(3, "print", 1);
        run.due(4, "count", 5);
        run.due(2, "count", 0);
    }

    // "IndexOutOfBoundsException."
    private static void promise10NoSuchName() {
        noSuchName("print");
    }

    // "0 when there is none."
    private static void promise11NoneThere() {
        Run run = Run.of("abc");
        run.due(0, "letter", 0);
        run.due(0, "letter", -1);
        run.then("print", 0);
        run.due('<', "letter", 0);
        run.due('>', "letter", 4);
        for (int i : new int[] {-1, 5, 27, 28, 29, Integer.MAX_VALUE, Integer.MIN_VALUE}) {
            run.sameBehind(0, "letter", i);
        }
    }

    // "Character i of what was printed or proposed latest"
    private static void promise11Latest() {
        Run run = Run.of("abcdef", "9");
        run.printedDue("<abcdef>", "print", 0);
        run.printedDue("a", "propose", 0);
        for (int i = 1; i <= 8; i++) {
            run.due(0, "letter", i);
        }
        run.printedDue("<9>", "print", 1);
        run.printedDue("n", "propose", 1);
        run.type("xyz").then("name").type("zz").then("clear");
        run.lettersDue("n");
    }

    private static void noSuchName(String method) {
        Run run = Run.of("one", "s", "onex").then("prefix", 0, 1).then("print", 2);
        for (int wrong : new int[] {-1, 3, 59, 60, Integer.MAX_VALUE, Integer.MIN_VALUE}) {
            run.outOfBounds(method, wrong);
        }
        run.then(method, 0).then(method, 2);
        Run full = Run.ofLetters(60);
        full.outOfBounds(method, 60);
        full.then(method, 59);
    }
}
