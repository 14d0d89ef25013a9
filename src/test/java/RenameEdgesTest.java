/**
 * Promises 20 to 27, and meanings, renames and clashes under 'Terms': a test for each sentence that
 * names an edge. The sentence stands above its test.
 */
public final class RenameEdgesTest {
    private static final int[] NO_NAMES = {-1, 8, 59, 60, Integer.MAX_VALUE, Integer.MIN_VALUE};
    private static final int[] NO_RULES = {-1, 2, 3, Integer.MAX_VALUE, Integer.MIN_VALUE};

    public static void main(String[] args) {
        promise20TheyAreOne();
        promise20RingOfTwo();
        promise20RingOfMore();
        promise20NoRing();
        promise20ForNoOtherOne();
        promise20OnceMore();
        promise20NoSuchName();
        promise21Itself();
        promise21AndSoOn();
        promise21NoSuchName();
        promise22UpToTheLastSlash();
        promise22NothingWithoutASlash();
        promise22UpToTheFirstHash();
        promise22AllWithoutAHash();
        promise22NameIsThere();
        promise22AnotherRule();
        promise22MoreThanTwentyFour();
        promise22SixtyFirst();
        promise22NoSuchName();
        promise22OrderOfWhatIsThrown();
        promise23RowPlaces();
        promise23StandingPlaces();
        promise23UsesAreOnePlace();
        promise23NoPlaces();
        promise23StandsForNoneThen();
        promise23ShortsAndSpacesStay();
        promise23BothAreTerms();
        promise23BothStandForSome();
        promise23OneStandsForTheOther();
        promise23OneStandsForTheOtherFarOff();
        promise23TheFirstOfTheseClashes();
        promise23NoClash();
        promise23BothAreOne();
        promise23TwentyRenames();
        promise23FullIsAskedBehindTheClashes();
        promise23NoSuchName();
        promise23OrderOfWhatIsThrown();
        promise24InOrder();
        promise24NoSuchName();
        promise25FromTheLatestBack();
        promise25NoSuchName();
        promise24And25TwentyRenames();
        promise24And25ClashesAreNoRenames();
        promise26NoneYet();
        promise26Latest();
        promise26AnotherWhat();
        promise27EachCount();
        promise27AnotherWhat();
        Check.finish();
    }

    /** 0 "s", 1 "t" a short of it, 2 "sa", 3 "sb", 4 "sc", 5 "sd", 6 "se", 7 "o". */
    private static Run vocabulary() {
        return Run.of("s", "t", "sa", "sb", "sc", "sd", "se", "o").then("prefix", 0, 1);
    }

    // "false for clash 3: they are one" and "3 a ring of names that stand for others: the name, the other one that were told."
    private static void promise20TheyAreOne() {
        Run run = vocabulary();
        run.clashes(0, new int[] {3, 0, 0}, "alias", 0, 0);
        run.clashes(0, new int[] {3, 7, 7}, "alias", 7, 7);
        run.due(7, "meaning", 7);
        run.then("alias", 7, 0);
        run.clashes(0, new int[] {3, 7, 7}, "alias", 7, 7);
        run.due(0, "meaning", 7);
    }

    // "or the first one is what the second one stands for"
    private static void promise20RingOfTwo() {
        Run run = vocabulary().then("alias", 0, 1);
        run.clashes(0, new int[] {3, 1, 0}, "alias", 1, 0);
        run.due(1, "meaning", 0);
        run.due(1, "meaning", 1);
    }

    // "or what that stands for, and so on." - up to the longest chain of 60 names.
    private static void promise20RingOfMore() {
        Run run = vocabulary().then("alias", 0, 1).then("alias", 1, 2).then("alias", 2, 3);
        run.clashes(0, new int[] {3, 2, 0}, "alias", 2, 0);
        run.clashes(0, new int[] {3, 3, 0}, "alias", 3, 0);
        run.clashes(0, new int[] {3, 3, 1}, "alias", 3, 1);
        run.clashes(0, new int[] {3, 1, 0}, "alias", 1, 0);
        run.due(1, "alias", 0, 3);
        run.due(1, "alias", 2, 0);
        Run chain = chainOfSixty();
        chain.clashes(0, new int[] {3, 59, 0}, "alias", 59, 0);
        chain.clashes(0, new int[] {3, 58, 0}, "alias", 58, 0);
        chain.clashes(0, new int[] {3, 59, 58}, "alias", 59, 58);
        chain.due(1, "alias", 0, 59);
    }

    // "The first name stands for the second one from now on" - what both stand for is no ring.
    private static void promise20NoRing() {
        Run run = vocabulary().then("alias", 0, 3).then("alias", 1, 3);
        run.due(1, "alias", 0, 1);
        run.due(1, "alias", 3, 4);
        run.due(4, "meaning", 0);
        run.due(1, "alias", 2, 0);
        run.due(4, "meaning", 2);
        run.clashDue(0, -1, -1);
    }

    // "(for no other one): true"
    private static void promise20ForNoOtherOne() {
        Run run = vocabulary().then("alias", 0, 1);
        run.due(1, "alias", 0, 2);
        run.due(2, "meaning", 0);
        run.due(1, "alias", 1, 0);
        run.due(2, "meaning", 1);
        run.clashes(0, new int[] {3, 2, 1}, "alias", 2, 1);
    }

    // "The first name stands for the second one from now on" - it may do so before.
    private static void promise20OnceMore() {
        Run run = vocabulary().then("alias", 0, 1);
        run.sameBehind(1, "alias", 0, 1);
    }

    // "IndexOutOfBoundsException."
    private static void promise20NoSuchName() {
        Run run = vocabulary().then("alias", 0, 1);
        for (int wrong : NO_NAMES) {
            run.outOfBounds("alias", wrong, 0);
            run.outOfBounds("alias", 0, wrong);
            run.outOfBounds("alias", wrong, wrong);
        }
        Run full = Run.ofLetters(60);
        full.outOfBounds("alias", 60, 0);
        full.outOfBounds("alias", 0, 60);
        full.due(1, "alias", 59, 0);
        full.due(1, "alias", 0, 58);
    }

    // "up to one that stands for none (itself, if it does)."
    private static void promise21Itself() {
        Run run = vocabulary().then("alias", 0, 1);
        run.sameBehind(1, "meaning", 1);
        run.sameBehind(7, "meaning", 7);
        run.due(1, "meaning", 0);
    }

    // "its MEANING is what it stands for, or what that stands for, and so on"
    private static void promise21AndSoOn() {
        Run run = chainOfSixty();
        for (int name = 0; name < 60; name++) {
            run.due(59, "meaning", name);
        }
        run.then("alias", 30, 58);
        run.due(59, "meaning", 0);
        run.due(59, "meaning", 31);
    }

    // "IndexOutOfBoundsException."
    private static void promise21NoSuchName() {
        noSuchName("meaning");
    }

    // "By rule 0: the first one up to its last '/', with that .., and the second one"
    private static void promise22UpToTheLastSlash() {
        Run run = Run.of("a/b/c", "x", "/", "q/", "/y", "//");
        joinedDue(run, 6, "a/b/x", 0, 1, 0);
        joinedDue(run, 7, "/x", 2, 1, 0);
        joinedDue(run, 8, "q/x", 3, 1, 0);
        joinedDue(run, 7, "/x", 4, 1, 0);
        joinedDue(run, 9, "//x", 5, 1, 0);
        joinedDue(run, 10, "///", 5, 2, 0);
        joinedDue(run, 11, "a/b/a/b/c", 0, 0, 0);
    }

    // "(nothing without one)"
    private static void promise22NothingWithoutASlash() {
        Run run = Run.of("abc", "x/y", "a#b", "x");
        run.due(1, "join", 0, 1, 0);
        run.due(3, "join", 2, 3, 0);
        run.due(0, "join", 0, 0, 0);
        run.due(4, "count", 0);
    }

    // "by rule 1: the first one up to its first '#', without that .., '#', and the second one."
    private static void promise22UpToTheFirstHash() {
        Run run = Run.of("a#b#c", "x", "#", "q#", "#y", "##");
        joinedDue(run, 6, "a#x", 0, 1, 1);
        joinedDue(run, 7, "#x", 2, 1, 1);
        joinedDue(run, 8, "q#x", 3, 1, 1);
        joinedDue(run, 7, "#x", 4, 1, 1);
        joinedDue(run, 7, "#x", 5, 1, 1);
        run.due(5, "join", 5, 2, 1);
        joinedDue(run, 9, "a#a#b#c", 0, 0, 1);
    }

    // "(all without one)"
    private static void promise22AllWithoutAHash() {
        Run run = Run.of("a/b", "x", "#");
        joinedDue(run, 3, "a/b#x", 0, 1, 1);
        joinedDue(run, 4, "x#x", 1, 1, 1);
        joinedDue(run, 5, "x##", 1, 2, 1);
    }

    // "Two names joined, which comes if it is not there: its number."
    private static void promise22NameIsThere() {
        Run run = Run.of("a/b", "c", "a/c", "a/b#c").type("tape");
        run.sameBehind(2, "join", 0, 1, 0);
        run.sameBehind(3, "join", 0, 1, 1);
        run.due(4, "join", 1, 0, 1);
        run.sameBehind(4, "join", 1, 0, 1);
        run.due(5, "count", 0);
        run.due(4, "count", 5);
    }

    // "IllegalArgumentException: another rule"
    private static void promise22AnotherRule() {
        Run run = Run.of("a/b", "c");
        for (int rule : NO_RULES) {
            run.badArgument("join", 0, 1, rule);
        }
        run.due(2, "join", 0, 1, 0);
        run.due(3, "join", 0, 1, 1);
    }

    // "UnsupportedOperationException: it has more than 24 characters"
    private static void promise22MoreThanTwentyFour() {
        String b22 = "b".repeat(22);
        Run run = Run.of(b22 + "/", "x", "xy", b22, "c".repeat(24), "c".repeat(23) + "/", "c".repeat(23) + "#");
        joinedDue(run, 7, b22 + "/x", 0, 1, 0);
        run.unsupported("join", 0, 2, 0);
        joinedDue(run, 8, b22 + "#x", 3, 1, 1);
        run.unsupported("join", 3, 2, 1);
        run.unsupported("join", 5, 1, 0);
        run.unsupported("join", 6, 1, 1);
        run.unsupported("join", 4, 4, 1);
        run.unsupported("join", 5, 4, 0);
        run.unsupported("join", 4, 1, 1);
        run.due(4, "join", 1, 4, 0);
        run.due(9, "count", 0);
    }

    // "or would be the 61st."
    private static void promise22SixtyFirst() {
        Run besides = Run.ofLetters(58).names("x/");
        besides.due(59, "join", 58, 0, 0);
        besides.sameBehind(59, "join", 58, 0, 0);
        besides.unsupported("join", 58, 1, 0);
        besides.unsupported("join", 0, 1, 1);
        besides.sameBehind(1, "join", 0, 1, 0);
        Run within = Run.ofLetters(59);
        within.due(59, "join", 0, 1, 1);
        within.sameBehind(59, "join", 0, 1, 1);
        within.unsupported("join", 1, 0, 1);
        within.due(60, "count", 0);
    }

    // "IndexOutOfBoundsException"
    private static void promise22NoSuchName() {
        Run run = vocabulary();
        for (int wrong : NO_NAMES) {
            for (int rule = 0; rule <= 1; rule++) {
                run.outOfBounds("join", wrong, 0, rule);
                run.outOfBounds("join", 0, wrong, rule);
            }
        }
        Run full = Run.ofLetters(60);
        full.outOfBounds("join", 60, 0, 0);
        full.outOfBounds("join", 0, 60, 0);
        full.due(59, "join", 0, 59, 0);
    }

    // "IndexOutOfBoundsException; IllegalArgumentException: ..; UnsupportedOperationException: .." - the first of these.
    private static void promise22OrderOfWhatIsThrown() {
        Run full = Run.ofLetters(60);
        Run tooLong = Run.of("b".repeat(24), "c".repeat(24));
        for (int rule : NO_RULES) {
            full.outOfBounds("join", 60, 0, rule);
            full.outOfBounds("join", 0, -1, rule);
            full.badArgument("join", 0, 1, rule);
            tooLong.badArgument("join", 0, 1, rule);
        }
        full.outOfBounds("join", 0, 60, 1);
        tooLong.outOfBounds("join", 0, 2, 1);
    }

    // "by changing all PLACES where it is: terms, domains, ranges"
    private static void promise23RowPlaces() {
        for (int what = 0; what <= 2; what++) {
            int[] cells = {3, 3, 3};
            cells[what] = 2;
            Run run = vocabulary().then("row", cells[0], cells[1], cells[2]);
            run.due(1, "rename", 2, 7);
            for (int i = 0; i <= 2; i++) {
                run.due(i == what ? 7 : 3, "told", 0, i);
            }
        }
        Run all = vocabulary().then("row", 2, 2, 2).then("row", 3, 2, 4).then("row", 4, 3, 2).then("row", 5, 7, 7);
        all.due(5, "rename", 2, 7);
        int[] due = {7, 7, 7, 3, 7, 4, 4, 3, 7, 5, 7, 7};
        for (int i = 0; i < due.length; i++) {
            all.due(due[i], "told", i / 3, i % 3);
        }
        Run toATerm = vocabulary().then("row", 3, 2, 2);
        toATerm.due(2, "rename", 2, 3);
        toATerm.due(3, "told", 0, 1);
        toATerm.due(3, "told", 0, 2);
    }

    // "what stands for it stands for the other one, and for what it stands the other one stands"
    private static void promise23StandingPlaces() {
        Run standsForIt = vocabulary().then("alias", 3, 2).then("alias", 4, 2).then("alias", 5, 3);
        standsForIt.due(2, "rename", 2, 7);
        for (int name = 3; name <= 5; name++) {
            standsForIt.due(7, "meaning", name);
        }
        standsForIt.due(2, "meaning", 2);
        Run itStands = vocabulary().then("alias", 2, 3);
        itStands.due(1, "rename", 2, 7);
        itStands.due(3, "meaning", 7);
        itStands.due(2, "meaning", 2);
        Run both = vocabulary().then("alias", 2, 3).then("alias", 4, 2).then("alias", 7, 6);
        both.due(2, "rename", 2, 5);
        both.due(3, "meaning", 4);
        both.due(3, "meaning", 5);
        both.due(6, "meaning", 7);
        Run firstAndLast = Run.ofLetters(60).then("alias", 0, 30).then("alias", 59, 30).then("alias", 30, 58);
        firstAndLast.due(3, "rename", 30, 1);
        firstAndLast.due(58, "meaning", 0);
        firstAndLast.due(58, "meaning", 59);
        firstAndLast.due(1, "alias", 1, 2);
        firstAndLast.due(2, "meaning", 0);
        firstAndLast.due(2, "meaning", 59);
        firstAndLast.due(30, "meaning", 30);
    }

    // "its uses (one place, if there are any) come to those of the other one."
    private static void promise23UsesAreOnePlace() {
        Run run = vocabulary().then("use", 2).then("use", 2).then("use", 2).then("use", 7).then("use", 7);
        run.due(1, "rename", 2, 7);
        run.due(0, "used", 2);
        run.due(5, "used", 7);
        run.due(0, "rename", 2, 7);
        run.due(5, "used", 7);
        run.due(1, "rename", 7, 3);
        run.due(5, "used", 3);
        run.due(0, "used", 7);
    }

    // "how many places" - none, but it is a rename.
    private static void promise23NoPlaces() {
        Run run = vocabulary();
        run.due(0, "rename", 2, 3);
        run.due(1, "count", 4);
        run.due(3, "now", 2);
        run.due(2, "was", 3);
    }

    // "It stands for none then, and has no uses."
    private static void promise23StandsForNoneThen() {
        Run run = vocabulary().then("alias", 2, 3).then("alias", 4, 2).then("use", 2);
        run.due(3, "rename", 2, 7);
        run.due(2, "meaning", 2);
        run.due(0, "used", 2);
        run.due(1, "alias", 3, 2);
        run.due(2, "meaning", 7);
        run.due(2, "meaning", 4);
        run.due(1, "use", 2);
    }

    // "Shorts and spaces stay."
    private static void promise23ShortsAndSpacesStay() {
        Run run = vocabulary();
        run.due(0, "rename", 0, 7);
        run.due(0, "rename", 1, 7);
        run.due(0, "space", 2);
        run.due(1, "best", 2);
        run.printedDue("t:a", "print", 2);
        run.type("t:b").due(3, "expand");
        run.due(1, "count", 1);
        run.due(1, "count", 2);
        run.clashes(0, new int[] {1, 0, 7}, "prefix", 7, 1);
    }

    // "4 both names of a rename are terms: their rows, that of the first name first."
    private static void promise23BothAreTerms() {
        Run run = vocabulary().then("row", 2, 3, 4).then("row", 3, 2, 4).then("use", 2);
        run.clashes(-1, new int[] {4, 0, 1}, "rename", 2, 3);
        run.clashes(-1, new int[] {4, 1, 0}, "rename", 3, 2);
        run.due(0, "count", 4);
        run.due(3, "rename", 2, 7);
        run.clashes(-1, new int[] {4, 0, 1}, "rename", 7, 3);
    }

    // "5 both stand for some name: what the first one stands for, then what the second one does."
    private static void promise23BothStandForSome() {
        Run run = vocabulary().then("alias", 2, 4).then("alias", 3, 5).then("alias", 4, 6).then("use", 2);
        run.clashes(-1, new int[] {5, 4, 5}, "rename", 2, 3);
        run.clashes(-1, new int[] {5, 5, 4}, "rename", 3, 2);
        run.clashes(-1, new int[] {5, 6, 5}, "rename", 4, 3);
        Run same = vocabulary().then("alias", 2, 4).then("alias", 3, 4);
        same.clashes(-1, new int[] {5, 4, 4}, "rename", 2, 3);
        same.due(0, "count", 4);
    }

    // "or 3 (one of both stands for the other one"
    private static void promise23OneStandsForTheOther() {
        Run run = vocabulary().then("alias", 2, 3).then("use", 2).then("use", 3);
        run.clashes(-1, new int[] {3, 2, 3}, "rename", 2, 3);
        run.clashes(-1, new int[] {3, 3, 2}, "rename", 3, 2);
        run.due(0, "count", 4);
        run.due(3, "meaning", 2);
    }

    // "or for what stands for it, and so on)" - up to the longest chain of 60 names.
    private static void promise23OneStandsForTheOtherFarOff() {
        Run run = vocabulary().then("alias", 2, 3).then("alias", 3, 4).then("alias", 4, 5);
        run.clashes(-1, new int[] {3, 2, 5}, "rename", 2, 5);
        run.clashes(-1, new int[] {3, 5, 2}, "rename", 5, 2);
        run.clashes(-1, new int[] {3, 3, 5}, "rename", 3, 5);
        run.clashes(-1, new int[] {3, 5, 3}, "rename", 5, 3);
        Run chain = chainOfSixty();
        chain.clashes(-1, new int[] {3, 0, 59}, "rename", 0, 59);
        chain.clashes(-1, new int[] {3, 59, 0}, "rename", 59, 0);
    }

    // "NONE for a clash: 4, 5, or 3 .., the first of these."
    private static void promise23TheFirstOfTheseClashes() {
        Run fourAndFive = vocabulary().then("row", 2, 0, 0).then("row", 3, 0, 0).then("alias", 2, 4).then("alias", 3, 5);
        fourAndFive.clashes(-1, new int[] {4, 0, 1}, "rename", 2, 3);
        Run fourAndThree = vocabulary().then("row", 2, 0, 0).then("row", 3, 0, 0).then("alias", 2, 3);
        fourAndThree.clashes(-1, new int[] {4, 1, 0}, "rename", 3, 2);
        Run fiveAndThree = vocabulary().then("alias", 2, 3).then("alias", 3, 4);
        fiveAndThree.clashes(-1, new int[] {5, 3, 4}, "rename", 2, 3);
        fiveAndThree.clashes(-1, new int[] {5, 4, 3}, "rename", 3, 2);
        Run all = vocabulary().then("row", 2, 0, 0).then("row", 3, 0, 0).then("alias", 2, 3).then("alias", 3, 4);
        all.clashes(-1, new int[] {4, 0, 1}, "rename", 2, 3);
    }

    // "4 both names of a rename are terms" and "5 both stand for some name" - one alone is no clash.
    private static void promise23NoClash() {
        Run run = vocabulary().then("row", 2, 3, 3).then("row", 4, 0, 0).then("alias", 2, 5).then("alias", 6, 3);
        run.due(2, "rename", 2, 7);
        Run other = vocabulary().then("row", 2, 3, 3).then("row", 4, 0, 0).then("alias", 2, 5).then("alias", 6, 3);
        other.due(3, "rename", 3, 2);
        other.due(5, "meaning", 6);
        other.due(2, "told", 0, 0);
        other.due(2, "told", 0, 1);
        other.clashDue(0, -1, -1);
    }

    // "IllegalArgumentException: both are one" - a term, or a name that stands for another one, does not clash with itself.
    private static void promise23BothAreOne() {
        Run run = vocabulary();
        run.badArgument("rename", 0, 0);
        run.badArgument("rename", 7, 7);
        run.then("row", 2, 2, 2).then("alias", 2, 3).then("alias", 4, 2).then("use", 2);
        run.badArgument("rename", 2, 2);
        run.due(0, "count", 4);
    }

    // "Renames are kept in order, at most 20." and "UnsupportedOperationException: there were 20"
    private static void promise23TwentyRenames() {
        Run run = vocabulary().then("use", 2);
        for (int i = 0; i < 20; i++) {
            run.due(1, "rename", 2 + i % 2, 3 - i % 2);
        }
        run.due(20, "count", 4);
        run.unsupported("rename", 2, 3);
        run.unsupported("rename", 4, 5);
        run.due(1, "used", 2);
        Run empty = vocabulary();
        for (int i = 0; i < 20; i++) {
            empty.due(0, "rename", 2, 3);
        }
        empty.unsupported("rename", 2, 3);
    }

    // "there were 20 (asked behind the clashes)."
    private static void promise23FullIsAskedBehindTheClashes() {
        Run run = vocabulary();
        for (int i = 0; i < 20; i++) {
            run.then("rename", 6, 7);
        }
        run.then("row", 2, 0, 0).then("row", 3, 0, 0).then("alias", 4, 2).then("alias", 5, 3);
        run.clashes(-1, new int[] {4, 0, 1}, "rename", 2, 3);
        run.clashes(-1, new int[] {5, 2, 3}, "rename", 4, 5);
        run.clashes(-1, new int[] {3, 2, 4}, "rename", 2, 4);
        run.unsupported("rename", 2, 7);
        run.unsupported("rename", 6, 7);
        run.clashDue(3, 2, 4);
    }

    // "IndexOutOfBoundsException"
    private static void promise23NoSuchName() {
        Run run = vocabulary().then("use", 0);
        for (int wrong : NO_NAMES) {
            run.outOfBounds("rename", wrong, 0);
            run.outOfBounds("rename", 0, wrong);
        }
        Run full = Run.ofLetters(60).then("use", 59);
        full.outOfBounds("rename", 60, 0);
        full.outOfBounds("rename", 0, 60);
        full.due(1, "rename", 59, 0);
        full.due(1, "rename", 0, 59);
    }

    // "IndexOutOfBoundsException; IllegalArgumentException: ..; UnsupportedOperationException: .." - the first of these.
    private static void promise23OrderOfWhatIsThrown() {
        Run run = vocabulary();
        run.outOfBounds("rename", 8, 8);
        run.outOfBounds("rename", -1, -1);
        for (int i = 0; i < 20; i++) {
            run.then("rename", 6, 7);
        }
        run.badArgument("rename", 2, 2);
        run.badArgument("rename", 6, 6);
        run.outOfBounds("rename", 2, 8);
        run.outOfBounds("rename", -1, 2);
        run.outOfBounds("rename", 8, 8);
    }

    // "by each rename in order, if it is its first name then, it becomes the second one."
    private static void promise24InOrder() {
        Run forward = vocabulary().then("rename", 2, 3).then("rename", 3, 4);
        forward.sameBehind(4, "now", 2);
        forward.due(4, "now", 3);
        forward.due(4, "now", 4);
        forward.due(5, "now", 5);
        Run backward = vocabulary().then("rename", 3, 4).then("rename", 2, 3);
        backward.due(3, "now", 2);
        backward.due(4, "now", 3);
        Run there = vocabulary().then("rename", 2, 3).then("rename", 3, 2);
        there.due(2, "now", 2);
        there.due(2, "now", 3);
        Run twice = vocabulary().then("rename", 2, 3).then("rename", 2, 4);
        twice.due(3, "now", 2);
    }

    // "IndexOutOfBoundsException."
    private static void promise24NoSuchName() {
        noSuchName("now");
    }

    // "by each rename from the latest back, if it is its second name then, it becomes the first one."
    private static void promise25FromTheLatestBack() {
        Run forward = vocabulary().then("rename", 2, 3).then("rename", 3, 4);
        forward.sameBehind(2, "was", 4);
        forward.due(2, "was", 3);
        forward.due(2, "was", 2);
        forward.due(5, "was", 5);
        Run backward = vocabulary().then("rename", 3, 4).then("rename", 2, 3);
        backward.due(3, "was", 4);
        backward.due(2, "was", 3);
        Run there = vocabulary().then("rename", 2, 3).then("rename", 3, 2);
        there.due(2, "was", 2);
        there.due(2, "was", 3);
        Run twice = vocabulary().then("rename", 3, 2).then("rename", 4, 2);
        twice.due(4, "was", 2);
    }

    // "IndexOutOfBoundsException."
    private static void promise25NoSuchName() {
        noSuchName("was");
    }

    // "Renames are kept in order, at most 20." - the first and the last of them are looked at.
    private static void promise24And25TwentyRenames() {
        Run run = Run.ofLetters(22);
        for (int i = 0; i < 20; i++) {
            run.then("rename", i, i + 1);
            run.due(i + 1, "now", 0);
            run.due(0, "was", i + 1);
        }
        run.unsupported("rename", 20, 21);
        run.due(20, "now", 0);
        run.due(20, "now", 19);
        run.due(0, "was", 20);
        run.due(21, "was", 21);
    }

    // "What throws, or tells of a clash, changes nothing" - such a rename is not kept.
    private static void promise24And25ClashesAreNoRenames() {
        Run run = vocabulary().then("alias", 2, 3);
        run.due(-1, "rename", 2, 3);
        run.badArgument("rename", 4, 4);
        run.outOfBounds("rename", 4, 8);
        run.due(2, "now", 2);
        run.due(3, "was", 3);
        run.due(0, "count", 4);
    }

    // "0, NONE, NONE when there was none."
    private static void promise26NoneYet() {
        Run run = vocabulary().then("row", 2, 0, 0).then("alias", 2, 3).then("rename", 4, 5).then("prefix", 0, 1);
        run.badArgument("rename", 2, 2);
        run.badState("row", 7, 0, 0);
        run.clashDue(0, -1, -1);
    }

    // "The latest clash: its kind (what = 0), the first (1), the second (2) of both"
    private static void promise26Latest() {
        Run run = vocabulary().then("row", 2, 0, 0).then("row", 3, 0, 0).then("alias", 4, 6).then("alias", 5, 7);
        for (int round = 0; round < 2; round++) {
            run.clashes(0, new int[] {1, 0, 7}, "prefix", 7, 1);
            run.clashes(-2, new int[] {2, 1, 3}, "row", 3, 3, 3);
            run.clashes(0, new int[] {3, 6, 4}, "alias", 6, 4);
            run.clashes(-1, new int[] {4, 1, 0}, "rename", 3, 2);
            run.clashes(-1, new int[] {5, 6, 7}, "rename", 4, 5);
            run.clashes(-1, new int[] {3, 7, 5}, "rename", 7, 5);
        }
        run.then("use", 2).then("alias", 2, 3).then("row", 4, 0, 0).then("prefix", 0, 1).then("rename", 0, 1);
        run.clashDue(3, 7, 5);
    }

    // "IllegalArgumentException: another what."
    private static void promise26AnotherWhat() {
        Run run = vocabulary().then("alias", 2, 2);
        for (int wrong : new int[] {-1, 3, 4, 5, Integer.MAX_VALUE, Integer.MIN_VALUE}) {
            run.badArgument("clash", wrong);
            new Run().badArgument("clash", wrong);
        }
        run.clashDue(3, 2, 2);
    }

    // "names (what = 0), spaces (1), shorts (2), rows (3), renames (4), characters on the tape (5), unknown names (6)."
    private static void promise27EachCount() {
        Run run = Run.of("s", "t", "u", "v", "sa", "sb", "sc", "sd", "se", "o");
        run.then("prefix", 0, 1).then("prefix", 0, 2).then("prefix", 3, 9);
        run.then("row", 4, 0, 0).then("row", 5, 0, 0).then("row", 6, 0, 0).then("use", 7).then("use", 8).then("use", 8);
        for (int i = 0; i < 4; i++) {
            run.then("rename", 1, 9);
        }
        run.type("12345");
        int[] due = {10, 2, 3, 3, 4, 5, 2};
        for (int what = 0; what < due.length; what++) {
            run.sameBehind(due[what], "count", what);
        }
    }

    // "IllegalArgumentException: another what."
    private static void promise27AnotherWhat() {
        Run run = vocabulary();
        for (int wrong : new int[] {-1, 7, 8, Integer.MAX_VALUE, Integer.MIN_VALUE}) {
            run.badArgument("count", wrong);
            new Run().badArgument("count", wrong);
        }
    }

    private static void joinedDue(Run run, int want, String text, int a, int b, int rule) {
        run.due(want, "join", a, b, rule);
        run.printedDue("<" + text + ">", "print", want);
    }

    /** 0 stands for 1, 1 for 2, .., 58 for 59. */
    private static Run chainOfSixty() {
        Run run = Run.ofLetters(60);
        for (int i = 58; i >= 0; i--) {
            run.then("alias", i, i + 1);
        }
        return run;
    }

    private static void noSuchName(String method) {
        Run run = vocabulary().then("alias", 2, 3).then("rename", 4, 5);
        for (int wrong : NO_NAMES) {
            run.outOfBounds(method, wrong);
        }
        Run full = Run.ofLetters(60);
        full.outOfBounds(method, 60);
        full.due(59, method, 59);
    }
}
