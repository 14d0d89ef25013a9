import java.util.ArrayList;
import java.util.Comparator;
import java.util.List;
import java.util.Map;
import java.util.TreeMap;
import java.util.stream.Collectors;
import java.util.stream.IntStream;

/**
 * The document once more, with the Java library and no thought of speed: it keeps nothing that can
 * be found anew, so that it goes wrong elsewhere than NameRules would.
 */
final class PlainBook {
    private static final int NONE = -1;

    private final List<String> names = new ArrayList<>();
    private final Map<Integer, Integer> spaceByShort = new TreeMap<>();
    private final List<int[]> rows = new ArrayList<>();
    private final Map<Integer, Integer> standsFor = new TreeMap<>();
    private final Map<Integer, Integer> uses = new TreeMap<>();
    private final List<int[]> renames = new ArrayList<>();
    private String tape = "";
    private String printed = "";
    private int[] clash = {0, NONE, NONE};

    int type(int character) {
        if (character < 33 || character > 126) {
            throw new IllegalArgumentException();
        }
        if (tape.length() == 24) {
            throw new UnsupportedOperationException();
        }
        tape += (char) character;
        return tape.length();
    }

    int clear() {
        int had = tape.length();
        tape = "";
        return had;
    }

    int name() {
        if (tape.isEmpty()) {
            throw new IllegalStateException();
        }
        int number = numberOf(tape);
        tape = "";
        return number;
    }

    int expand() {
        if (tape.isEmpty()) {
            throw new IllegalStateException();
        }
        int number;
        if (tape.matches("<.+>")) {
            number = numberOf(tape.replaceFirst("^<(.+)>$", "$1"));
        } else {
            String[] parts = tape.split(":", 2);
            Integer space = spaceByShort.get(names.indexOf(parts[0]));
            if (parts.length < 2 || parts[1].isEmpty() || space == null) {
                throw new IllegalArgumentException();
            }
            number = numberOf(names.get(space) + parts[1]);
        }
        tape = "";
        return number;
    }

    boolean prefix(int space, int form) {
        requireNames(space, form);
        if (space == form || !names.get(form).matches("[a-z][a-z0-9]{0,3}")) {
            throw new IllegalArgumentException();
        }
        int has = spaceByShort.getOrDefault(form, space);
        if (has != space) {
            clash = new int[] {1, has, space};
            return false;
        }
        spaceByShort.put(form, space);
        return true;
    }

    int space(int name) {
        requireNames(name);
        return spaceByShort.values().stream()
                .filter(space -> names.get(name).startsWith(names.get(space)) && space != name)
                .max(Comparator.comparing(space -> names.get(space).length())).orElse(NONE);
    }

    int best(int name) {
        int space = space(name);
        return spaceByShort.keySet().stream().filter(form -> spaceByShort.get(form) == space)
                .min(Comparator.<Integer>comparingInt(form -> names.get(form).length()).thenComparing(names::get))
                .orElse(NONE);
    }

    int propose(int name) {
        requireNames(name);
        String[] parts = names.get(name).replaceAll("[^a-zA-Z]+", " ").trim().toLowerCase().split(" ");
        String last = parts[parts.length - 1].isEmpty() ? "n" : parts[parts.length - 1];
        List<String> proposed = new ArrayList<>();
        for (int length = 1; length <= 4 && length <= last.length(); length++) {
            proposed.add(last.substring(0, length));
        }
        for (int number = 1; number <= 99; number++) {
            proposed.add(last.substring(0, 1) + number);
        }
        List<String> shorts = spaceByShort.keySet().stream().map(names::get).collect(Collectors.toList());
        printed = proposed.stream().filter(text -> !shorts.contains(text)).findFirst().orElse("");
        return printed.length();
    }

    int print(int name) {
        int space = space(name);
        printed = space == NONE ? "<" + names.get(name) + ">"
                : names.get(best(name)) + ":" + names.get(name).substring(names.get(space).length());
        return printed.length();
    }

    char letter(int i) {
        return i >= 0 && i < printed.length() ? printed.charAt(i) : 0;
    }

    int row(int term, int domain, int range) {
        requireNames(term, domain, range);
        if (space(term) == NONE) {
            throw new IllegalStateException();
        }
        int has = terms().indexOf(term);
        if (has >= 0) {
            clash = new int[] {2, has, term};
            return -1 - has;
        }
        if (rows.size() == 40) {
            throw new UnsupportedOperationException();
        }
        rows.add(new int[] {term, domain, range});
        return rows.size() - 1;
    }

    int told(int row, int what) {
        if (row < 0 || row >= rows.size()) {
            throw new IndexOutOfBoundsException();
        }
        if (what < 0 || what > 2) {
            throw new IllegalArgumentException();
        }
        return rows.get(row)[what];
    }

    int document(int space, int i) {
        requireNames(space);
        return at(i, IntStream.range(0, rows.size()).boxed().filter(row -> space(terms().get(row)) == space)
                .sorted(Comparator.comparing(row -> names.get(terms().get(row)))).collect(Collectors.toList()));
    }

    int use(int name) {
        requireNames(name);
        return uses.merge(name, 1, Integer::sum);
    }

    int used(int name) {
        requireNames(name);
        return uses.getOrDefault(name, 0);
    }

    int unknown(int i) {
        return at(i, unknowns());
    }

    int apart(int a, int b) {
        requireNames(a, b);
        String first = names.get(a);
        String second = names.get(b);
        int[][] steps = new int[first.length() + 1][second.length() + 1];
        for (int i = 0; i <= first.length(); i++) {
            for (int j = 0; j <= second.length(); j++) {
                if (i == 0 || j == 0) {
                    steps[i][j] = i + j;
                } else if (first.charAt(i - 1) == second.charAt(j - 1)) {
                    steps[i][j] = steps[i - 1][j - 1];
                } else {
                    steps[i][j] = 1 + Math.min(steps[i - 1][j - 1], Math.min(steps[i - 1][j], steps[i][j - 1]));
                }
            }
        }
        return steps[first.length()][second.length()];
    }

    int near(int name, int i) {
        requireNames(name);
        return at(i, IntStream.range(0, rows.size()).boxed()
                .sorted(Comparator.comparing(row -> apart(name, terms().get(row)))).collect(Collectors.toList()));
    }

    boolean alias(int a, int b) {
        requireNames(a, b);
        if (chain(b).contains(a)) {
            clash = new int[] {3, a, b};
            return false;
        }
        standsFor.put(a, b);
        return true;
    }

    int meaning(int name) {
        requireNames(name);
        List<Integer> chain = chain(name);
        return chain.get(chain.size() - 1);
    }

    int join(int a, int b, int rule) {
        requireNames(a, b);
        if (rule < 0 || rule > 1) {
            throw new IllegalArgumentException();
        }
        String first = names.get(a);
        String begin = rule == 0 ? first.replaceFirst("[^/]*$", "") : first.replaceFirst("#.*", "") + "#";
        return numberOf(begin + names.get(b));
    }

    int rename(int from, int to) {
        requireNames(from, to);
        if (from == to) {
            throw new IllegalArgumentException();
        }
        if (terms().contains(from) && terms().contains(to)) {
            clash = new int[] {4, terms().indexOf(from), terms().indexOf(to)};
            return NONE;
        }
        if (standsFor.containsKey(from) && standsFor.containsKey(to)) {
            clash = new int[] {5, standsFor.get(from), standsFor.get(to)};
            return NONE;
        }
        if (chain(from).contains(to) || chain(to).contains(from)) {
            clash = new int[] {3, from, to};
            return NONE;
        }
        if (renames.size() == 20) {
            throw new UnsupportedOperationException();
        }
        renames.add(new int[] {from, to});
        return changePlaces(from, to);
    }

    int now(int name) {
        requireNames(name);
        int at = name;
        for (int[] rename : renames) {
            at = rename[0] == at ? rename[1] : at;
        }
        return at;
    }

    int was(int name) {
        requireNames(name);
        int at = name;
        for (int i = renames.size() - 1; i >= 0; i--) {
            at = renames.get(i)[1] == at ? renames.get(i)[0] : at;
        }
        return at;
    }

    int clash(int what) {
        if (what < 0 || what > 2) {
            throw new IllegalArgumentException();
        }
        return clash[what];
    }

    int count(int what) {
        if (what < 0 || what > 6) {
            throw new IllegalArgumentException();
        }
        int spaces = (int) spaceByShort.values().stream().distinct().count();
        return new int[] {names.size(), spaces, spaceByShort.size(), rows.size(), renames.size(), tape.length(),
            unknowns().size()}[what];
    }

    private void requireNames(int... numbers) {
        for (int number : numbers) {
            if (number < 0 || number >= names.size()) {
                throw new IndexOutOfBoundsException();
            }
        }
    }

    private int numberOf(String text) {
        if (!names.contains(text)) {
            if (text.length() > 24 || names.size() == 60) {
                throw new UnsupportedOperationException();
            }
            names.add(text);
        }
        return names.indexOf(text);
    }

    private int at(int i, List<Integer> list) {
        if (i < 0) {
            throw new IndexOutOfBoundsException();
        }
        return i < list.size() ? list.get(i) : NONE;
    }

    private List<Integer> terms() {
        return rows.stream().map(row -> row[0]).collect(Collectors.toList());
    }

    private List<Integer> unknowns() {
        List<Integer> termSpaces = terms().stream().map(this::space).collect(Collectors.toList());
        return IntStream.range(0, names.size()).boxed()
                .filter(name -> used(name) > 0 && space(name) != NONE && !terms().contains(name))
                .filter(name -> termSpaces.contains(space(name))).collect(Collectors.toList());
    }

    /** A name, what it stands for, and so on. */
    private List<Integer> chain(int name) {
        List<Integer> chain = new ArrayList<>();
        for (Integer at = name; at != null; at = standsFor.get(at)) {
            chain.add(at);
        }
        return chain;
    }

    private int changePlaces(int from, int to) {
        int places = 0;
        for (int[] row : rows) {
            for (int what = 0; what < 3; what++) {
                if (row[what] == from) {
                    row[what] = to;
                    places++;
                }
            }
        }
        for (int name = 0; name < names.size(); name++) {
            if (standsFor.getOrDefault(name, NONE) == from) {
                standsFor.put(name, to);
                places++;
            }
        }
        if (standsFor.containsKey(from)) {
            standsFor.put(to, standsFor.remove(from));
            places++;
        }
        if (uses.containsKey(from)) {
            uses.merge(to, uses.remove(from), Integer::sum);
            places++;
        }
        return places;
    }
}
