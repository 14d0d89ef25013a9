/**
 * A book of names that tell things by address: short forms of their beginnings, names printed by
 * these and read again, rows of a vocabulary, uses, names that stand for others, names joined,
 * renamed both ways, and the nearest known one for a name that is not known.
 */
public final class NameRules {
    public static final int NONE = -1;

    private static final int MOST_NAMES = 60;
    private static final int LONGEST_NAME = 24;
    private static final int LONGEST_SHORT = 4;
    private static final int MOST_ROWS = 40;
    private static final int MOST_RENAMES = 20;
    private static final int LAST_PROPOSED_NUMBER = 99;

    // The best short, ':' and all but one character of a name.
    private static final int LONGEST_PRINTED = LONGEST_SHORT + LONGEST_NAME;
    // Two whole names and '#': too long for a name, but room enough to see that it is.
    private static final int LONGEST_BUILT = LONGEST_NAME + 1 + LONGEST_NAME;

    private static final int SHORT_HAS_A_SPACE = 1;
    private static final int TERM_HAS_A_ROW = 2;
    private static final int RING = 3;
    private static final int BOTH_ARE_TERMS = 4;
    private static final int BOTH_STAND_FOR_SOME = 5;

    private final Text tape;
    private final Text printed;
    private final Text built;
    private final Names names;
    private final Shorts shorts;
    private final Rows rows;
    private final Standing standing;
    private final Renames renames;
    private final Steps steps;
    private final int[] uses;
    private final boolean[] termSpaces;
    private final int[] distances;
    private int clashKind;
    private int clashFirst;
    private int clashSecond;

    public NameRules() {
        tape = new Text(LONGEST_NAME);
        printed = new Text(LONGEST_PRINTED);
        built = new Text(LONGEST_BUILT);
        names = new Names();
        shorts = new Shorts(names);
        rows = new Rows();
        standing = new Standing();
        renames = new Renames();
        steps = new Steps();
        uses = new int[MOST_NAMES];
        termSpaces = new boolean[MOST_NAMES];
        distances = new int[MOST_ROWS];
        clashKind = 0;
        clashFirst = NONE;
        clashSecond = NONE;
    }

    public int type(int character) throws IllegalArgumentException, UnsupportedOperationException {
        if (character < 33 || character > 126) {
            throw new IllegalArgumentException("a character is 33 .. 126");
        }
        if (tape.isFull()) {
            throw new UnsupportedOperationException("the tape is full");
        }
        tape.put((char) character);
        return tape.length();
    }

    public int clear() {
        int had = tape.length();
        tape.empty();
        return had;
    }

    public int name() throws IllegalStateException, UnsupportedOperationException {
        requireTape();
        int number = numberOf(tape);
        tape.empty();
        return number;
    }

    public int expand() throws IllegalStateException, IllegalArgumentException, UnsupportedOperationException {
        requireTape();
        buildFromTape();
        if (built.isEmpty()) {
            throw new IllegalArgumentException("the tape is no printed name");
        }
        int number = numberOf(built);
        tape.empty();
        return number;
    }

    public boolean prefix(int space, int form) throws IndexOutOfBoundsException, IllegalArgumentException {
        requireName(space);
        requireName(form);
        if (space == form || !names.text(form).canBeShort()) {
            throw new IllegalArgumentException("this can't be a short of that");
        }
        int has = shorts.spaceOfShort(form);
        if (has != NONE && has != space) {
            keepClash(SHORT_HAS_A_SPACE, has, space);
            return false;
        }
        if (has == NONE) {
            shorts.add(space, form);
        }
        return true;
    }

    public int space(int name) throws IndexOutOfBoundsException {
        requireName(name);
        return shorts.spaceOfName(name);
    }

    public int best(int name) throws IndexOutOfBoundsException {
        requireName(name);
        return shorts.bestOfSpace(shorts.spaceOfName(name));
    }

    public int propose(int name) throws IndexOutOfBoundsException {
        requireName(name);
        buildLastLetters(names.text(name));
        int beginnings = Math.min(built.length(), LONGEST_SHORT);
        for (int length = 1; length <= beginnings; length++) {
            printed.empty();
            printed.putPart(built, 0, length);
            if (!shorts.isShort(printed)) {
                return printed.length();
            }
        }
        // One of the numbers is always free: there are more of them than names.
        for (int number = 1; number <= LAST_PROPOSED_NUMBER; number++) {
            printed.empty();
            printed.put(built.at(0));
            printed.putNumber(number);
            if (!shorts.isShort(printed)) {
                break;
            }
        }
        return printed.length();
    }

    public int print(int name) throws IndexOutOfBoundsException {
        requireName(name);
        Text text = names.text(name);
        int space = shorts.spaceOfName(name);
        printed.empty();
        if (space == NONE) {
            printed.put('<');
            printed.putAll(text);
            printed.put('>');
        } else {
            printed.putAll(names.text(shorts.bestOfSpace(space)));
            printed.put(':');
            printed.putPart(text, names.text(space).length(), text.length());
        }
        return printed.length();
    }

    public char letter(int i) {
        return printed.at(i);
    }

    public int row(int term, int domain, int range)
            throws IndexOutOfBoundsException, IllegalStateException, UnsupportedOperationException {
        requireName(term);
        requireName(domain);
        requireName(range);
        if (shorts.spaceOfName(term) == NONE) {
            throw new IllegalStateException("the term has no space");
        }
        int has = rows.rowOfTerm(term);
        if (has != NONE) {
            keepClash(TERM_HAS_A_ROW, has, term);
            return -1 - has;
        }
        if (rows.isFull()) {
            throw new UnsupportedOperationException("there are 40 rows");
        }
        return rows.add(term, domain, range);
    }

    public int told(int row, int what) throws IndexOutOfBoundsException, IllegalArgumentException {
        if (!rows.has(row)) {
            throw new IndexOutOfBoundsException("there is no such row");
        }
        if (what < 0 || what >= Rows.WIDTH) {
            throw new IllegalArgumentException("a row has 0 term, 1 domain, 2 range");
        }
        return rows.cell(row, what);
    }

    public int document(int space, int i) throws IndexOutOfBoundsException {
        requireName(space);
        requirePlace(i);
        for (int row = 0; row < rows.size(); row++) {
            if (isInSpace(row, space) && rowsBefore(row, space) == i) {
                return row;
            }
        }
        return NONE;
    }

    public int use(int name) throws IndexOutOfBoundsException {
        requireName(name);
        uses[name]++;
        return uses[name];
    }

    public int used(int name) throws IndexOutOfBoundsException {
        requireName(name);
        return uses[name];
    }

    public int unknown(int i) throws IndexOutOfBoundsException {
        requirePlace(i);
        markTermSpaces();
        int before = 0;
        for (int name = 0; name < names.size(); name++) {
            if (isUnknown(name)) {
                if (before == i) {
                    return name;
                }
                before++;
            }
        }
        return NONE;
    }

    public int apart(int a, int b) throws IndexOutOfBoundsException {
        requireName(a);
        requireName(b);
        return steps.between(names.text(a), names.text(b));
    }

    public int near(int name, int i) throws IndexOutOfBoundsException {
        requireName(name);
        requirePlace(i);
        measureTerms(name);
        for (int row = 0; row < rows.size(); row++) {
            if (rowsNearer(row) == i) {
                return row;
            }
        }
        return NONE;
    }

    public boolean alias(int a, int b) throws IndexOutOfBoundsException {
        requireName(a);
        requireName(b);
        if (a == b || standing.leads(b, a)) {
            keepClash(RING, a, b);
            return false;
        }
        standing.set(a, b);
        return true;
    }

    public int meaning(int name) throws IndexOutOfBoundsException {
        requireName(name);
        return standing.end(name);
    }

    public int join(int a, int b, int rule)
            throws IndexOutOfBoundsException, IllegalArgumentException, UnsupportedOperationException {
        requireName(a);
        requireName(b);
        if (rule != 0 && rule != 1) {
            throw new IllegalArgumentException("a rule is 0 or 1");
        }
        if (rule == 0) {
            buildBesides(names.text(a), names.text(b));
        } else {
            buildWithin(names.text(a), names.text(b));
        }
        return numberOf(built);
    }

    public int rename(int from, int to)
            throws IndexOutOfBoundsException, IllegalArgumentException, UnsupportedOperationException {
        requireName(from);
        requireName(to);
        if (from == to) {
            throw new IllegalArgumentException("both are one");
        }
        if (renameClashes(from, to)) {
            return NONE;
        }
        if (renames.isFull()) {
            throw new UnsupportedOperationException("there were 20 renames");
        }
        renames.add(from, to);
        return rows.replace(from, to) + standing.replace(from, to) + moveUses(from, to);
    }

    public int now(int name) throws IndexOutOfBoundsException {
        requireName(name);
        return renames.forward(name);
    }

    public int was(int name) throws IndexOutOfBoundsException {
        requireName(name);
        return renames.back(name);
    }

    public int clash(int what) throws IllegalArgumentException {
        switch (what) {
            case 0:
                return clashKind;
            case 1:
                return clashFirst;
            case 2:
                return clashSecond;
            default:
                throw new IllegalArgumentException("a clash has 0 kind, 1 first, 2 second");
        }
    }

    public int count(int what) throws IllegalArgumentException {
        switch (what) {
            case 0:
                return names.size();
            case 1:
                return shorts.spaces();
            case 2:
                return shorts.size();
            case 3:
                return rows.size();
            case 4:
                return renames.size();
            case 5:
                return tape.length();
            case 6:
                return unknownNames();
            default:
                throw new IllegalArgumentException("what is counted is 0 .. 6");
        }
    }

    private void requireName(int number) {
        if (!names.has(number)) {
            throw new IndexOutOfBoundsException("there is no such name");
        }
    }

    private void requirePlace(int i) {
        if (i < 0) {
            throw new IndexOutOfBoundsException("i is below 0");
        }
    }

    private void requireTape() {
        if (tape.isEmpty()) {
            throw new IllegalStateException("the tape is empty");
        }
    }

    private void keepClash(int kind, int first, int second) {
        clashKind = kind;
        clashFirst = first;
        clashSecond = second;
    }

    private int numberOf(Text text) {
        int known = names.find(text);
        if (known != NONE) {
            return known;
        }
        if (text.length() > LONGEST_NAME || names.isFull()) {
            throw new UnsupportedOperationException("the name is too long, or one too many");
        }
        return names.add(text);
    }

    // Leaves nothing built when the tape is no printed name.
    private void buildFromTape() {
        int last = tape.length() - 1;
        if (tape.length() > 2 && tape.at(0) == '<' && tape.at(last) == '>') {
            built.empty();
            built.putPart(tape, 1, last);
            return;
        }
        int colon = tape.firstPlaceOf(':');
        int space = colon == NONE ? NONE : spaceOnTapeBefore(colon);
        built.empty();
        if (space != NONE && colon < last) {
            built.putAll(names.text(space));
            built.putPart(tape, colon + 1, tape.length());
        }
    }

    private int spaceOnTapeBefore(int colon) {
        built.empty();
        built.putPart(tape, 0, colon);
        int form = names.find(built);
        return form == NONE ? NONE : shorts.spaceOfShort(form);
    }

    private void buildLastLetters(Text text) {
        int end = text.length();
        while (end > 0 && !isLetter(text.at(end - 1))) {
            end--;
        }
        int start = end;
        while (start > 0 && isLetter(text.at(start - 1))) {
            start--;
        }
        built.empty();
        for (int i = start; i < end; i++) {
            built.put(small(text.at(i)));
        }
        if (built.isEmpty()) {
            built.put('n');
        }
    }

    private static boolean isSmallLetter(char c) {
        return c >= 'a' && c <= 'z';
    }

    private static boolean isGreatLetter(char c) {
        return c >= 'A' && c <= 'Z';
    }

    private static boolean isLetter(char c) {
        return isSmallLetter(c) || isGreatLetter(c);
    }

    private static boolean isDigit(char c) {
        return c >= '0' && c <= '9';
    }

    private static char small(char c) {
        return isGreatLetter(c) ? (char) (c - 'A' + 'a') : c;
    }

    private void buildBesides(Text first, Text second) {
        built.empty();
        built.putPart(first, 0, first.lastPlaceOf('/') + 1);
        built.putAll(second);
    }

    private void buildWithin(Text first, Text second) {
        int mark = first.firstPlaceOf('#');
        built.empty();
        built.putPart(first, 0, mark == NONE ? first.length() : mark);
        built.put('#');
        built.putAll(second);
    }

    private Text termText(int row) {
        return names.text(rows.cell(row, Rows.TERM));
    }

    private int spaceOfTerm(int row) {
        return shorts.spaceOfName(rows.cell(row, Rows.TERM));
    }

    private boolean isInSpace(int row, int space) {
        return spaceOfTerm(row) == space;
    }

    private int rowsBefore(int row, int space) {
        Text term = termText(row);
        int before = 0;
        for (int other = 0; other < rows.size(); other++) {
            if (termText(other).compareWith(term) < 0 && isInSpace(other, space)) {
                before++;
            }
        }
        return before;
    }

    private void markTermSpaces() {
        for (int name = 0; name < termSpaces.length; name++) {
            termSpaces[name] = false;
        }
        for (int row = 0; row < rows.size(); row++) {
            int space = spaceOfTerm(row);
            if (space != NONE) {
                termSpaces[space] = true;
            }
        }
    }

    // Right only behind a call of markTermSpaces().
    private boolean isUnknown(int name) {
        if (uses[name] <= 0 || rows.rowOfTerm(name) != NONE) {
            return false;
        }
        int space = shorts.spaceOfName(name);
        return space != NONE && termSpaces[space];
    }

    private int unknownNames() {
        markTermSpaces();
        int found = 0;
        for (int name = 0; name < names.size(); name++) {
            if (isUnknown(name)) {
                found++;
            }
        }
        return found;
    }

    private void measureTerms(int name) {
        Text text = names.text(name);
        for (int row = 0; row < rows.size(); row++) {
            distances[row] = steps.between(text, termText(row));
        }
    }

    // Right only behind a call of measureTerms().
    private int rowsNearer(int row) {
        int nearer = 0;
        for (int other = 0; other < rows.size(); other++) {
            boolean sameButEarlier = distances[other] == distances[row] && other < row;
            if (distances[other] < distances[row] || sameButEarlier) {
                nearer++;
            }
        }
        return nearer;
    }

    private boolean renameClashes(int from, int to) {
        int rowOfFrom = rows.rowOfTerm(from);
        int rowOfTo = rows.rowOfTerm(to);
        if (rowOfFrom != NONE && rowOfTo != NONE) {
            keepClash(BOTH_ARE_TERMS, rowOfFrom, rowOfTo);
            return true;
        }
        if (standing.next(from) != NONE && standing.next(to) != NONE) {
            keepClash(BOTH_STAND_FOR_SOME, standing.next(from), standing.next(to));
            return true;
        }
        if (standing.leads(from, to) || standing.leads(to, from)) {
            keepClash(RING, from, to);
            return true;
        }
        return false;
    }

    private int moveUses(int from, int to) {
        if (uses[from] == 0) {
            return 0;
        }
        uses[to] += uses[from];
        uses[from] = 0;
        return 1;
    }

    /** A row of characters with a limit; what does not fit is left away. */
    private static final class Text {
        private final char[] characters;
        private int length;

        Text(int limit) {
            characters = new char[limit];
            length = 0;
        }

        int length() {
            return length;
        }

        boolean isEmpty() {
            return length == 0;
        }

        boolean isFull() {
            return length >= characters.length;
        }

        char at(int i) {
            return i >= 0 && i < length ? characters[i] : '\0';
        }

        void empty() {
            length = 0;
        }

        void put(char c) {
            if (length < characters.length) {
                characters[length] = c;
                length++;
            }
        }

        void putPart(Text other, int start, int end) {
            for (int i = start; i < end; i++) {
                put(other.at(i));
            }
        }

        void putAll(Text other) {
            putPart(other, 0, other.length);
        }

        // For 1 .. 99.
        void putNumber(int number) {
            if (number >= 10) {
                put((char) ('0' + number / 10));
            }
            put((char) ('0' + number % 10));
        }

        int firstPlaceOf(char c) {
            for (int i = 0; i < length; i++) {
                if (characters[i] == c) {
                    return i;
                }
            }
            return NONE;
        }

        int lastPlaceOf(char c) {
            for (int i = length - 1; i >= 0; i--) {
                if (characters[i] == c) {
                    return i;
                }
            }
            return NONE;
        }

        int compareWith(Text other) {
            int shared = Math.min(length, other.length);
            for (int i = 0; i < shared; i++) {
                if (characters[i] != other.characters[i]) {
                    return characters[i] - other.characters[i];
                }
            }
            return length - other.length;
        }

        boolean goesOnBehind(Text beginning) {
            if (length <= beginning.length) {
                return false;
            }
            for (int i = 0; i < beginning.length; i++) {
                if (characters[i] != beginning.characters[i]) {
                    return false;
                }
            }
            return true;
        }

        boolean canBeShort() {
            if (length > LONGEST_SHORT || !isSmallLetter(at(0))) {
                return false;
            }
            for (int i = 1; i < length; i++) {
                if (!isSmallLetter(characters[i]) && !isDigit(characters[i])) {
                    return false;
                }
            }
            return true;
        }

        boolean isBetterShortThan(Text other) {
            return length != other.length ? length < other.length : compareWith(other) < 0;
        }
    }

    /** The names by their numbers. */
    private static final class Names {
        private final Text[] texts;
        private int size;

        Names() {
            texts = new Text[MOST_NAMES];
            for (int i = 0; i < texts.length; i++) {
                texts[i] = new Text(LONGEST_NAME);
            }
            size = 0;
        }

        int size() {
            return size;
        }

        boolean has(int number) {
            return number >= 0 && number < size;
        }

        boolean isFull() {
            return size >= texts.length;
        }

        Text text(int number) {
            return texts[number];
        }

        int find(Text text) {
            for (int number = 0; number < size; number++) {
                if (texts[number].compareWith(text) == 0) {
                    return number;
                }
            }
            return NONE;
        }

        int add(Text text) {
            int number = size;
            texts[number].putAll(text);
            size++;
            return number;
        }
    }

    /** Which names are shorts, of which spaces, and the best one of each space. */
    private static final class Shorts {
        private final Names names;
        private final int[] spaceOfShort;
        private final int[] bestOfSpace;
        private int size;
        private int spaces;

        Shorts(Names names) {
            this.names = names;
            spaceOfShort = new int[MOST_NAMES];
            bestOfSpace = new int[MOST_NAMES];
            for (int i = 0; i < MOST_NAMES; i++) {
                spaceOfShort[i] = NONE;
                bestOfSpace[i] = NONE;
            }
            size = 0;
            spaces = 0;
        }

        int size() {
            return size;
        }

        int spaces() {
            return spaces;
        }

        int spaceOfShort(int form) {
            return spaceOfShort[form];
        }

        // NONE is no space, and has no short.
        int bestOfSpace(int space) {
            return space == NONE ? NONE : bestOfSpace[space];
        }

        boolean isShort(Text text) {
            int number = names.find(text);
            return number != NONE && spaceOfShort[number] != NONE;
        }

        // Shorts never go, so the best one is known by looking at each new one alone.
        void add(int space, int form) {
            spaceOfShort[form] = space;
            size++;
            int best = bestOfSpace[space];
            if (best == NONE) {
                spaces++;
            }
            if (best == NONE || names.text(form).isBetterShortThan(names.text(best))) {
                bestOfSpace[space] = form;
            }
        }

        int spaceOfName(int name) {
            Text text = names.text(name);
            int longest = NONE;
            int length = 0;
            for (int space = 0; space < names.size(); space++) {
                Text beginning = names.text(space);
                if (bestOfSpace[space] != NONE && beginning.length() > length && text.goesOnBehind(beginning)) {
                    longest = space;
                    length = beginning.length();
                }
            }
            return longest;
        }
    }

    /** The rows of the vocabulary, each with its term, domain and range side by side. */
    private static final class Rows {
        static final int TERM = 0;
        static final int DOMAIN = 1;
        static final int RANGE = 2;
        static final int WIDTH = 3;

        private final int[] cells;
        private int size;

        Rows() {
            cells = new int[MOST_ROWS * WIDTH];
            size = 0;
        }

        int size() {
            return size;
        }

        boolean has(int number) {
            return number >= 0 && number < size;
        }

        boolean isFull() {
            return size >= MOST_ROWS;
        }

        int cell(int number, int what) {
            return cells[number * WIDTH + what];
        }

        int rowOfTerm(int name) {
            for (int number = 0; number < size; number++) {
                if (cell(number, TERM) == name) {
                    return number;
                }
            }
            return NONE;
        }

        int add(int term, int domain, int range) {
            int number = size;
            cells[number * WIDTH + TERM] = term;
            cells[number * WIDTH + DOMAIN] = domain;
            cells[number * WIDTH + RANGE] = range;
            size++;
            return number;
        }

        int replace(int from, int to) {
            int places = 0;
            for (int i = 0; i < size * WIDTH; i++) {
                if (cells[i] == from) {
                    cells[i] = to;
                    places++;
                }
            }
            return places;
        }
    }

    /** What each name stands for; there is never a ring, but every walk is bounded all the same. */
    private static final class Standing {
        private final int[] standsFor;

        Standing() {
            standsFor = new int[MOST_NAMES];
            for (int i = 0; i < standsFor.length; i++) {
                standsFor[i] = NONE;
            }
        }

        int next(int name) {
            return standsFor[name];
        }

        void set(int name, int other) {
            standsFor[name] = other;
        }

        int end(int name) {
            int at = name;
            for (int step = 0; step < MOST_NAMES && standsFor[at] != NONE; step++) {
                at = standsFor[at];
            }
            return at;
        }

        boolean leads(int name, int goal) {
            int at = name;
            for (int step = 0; step < MOST_NAMES && standsFor[at] != NONE; step++) {
                at = standsFor[at];
                if (at == goal) {
                    return true;
                }
            }
            return false;
        }

        int replace(int from, int to) {
            int places = 0;
            for (int i = 0; i < standsFor.length; i++) {
                if (standsFor[i] == from) {
                    standsFor[i] = to;
                    places++;
                }
            }
            if (standsFor[from] != NONE) {
                standsFor[to] = standsFor[from];
                standsFor[from] = NONE;
                places++;
            }
            return places;
        }
    }

    /** The renames in their order. */
    private static final class Renames {
        private final int[] olds;
        private final int[] news;
        private int size;

        Renames() {
            olds = new int[MOST_RENAMES];
            news = new int[MOST_RENAMES];
            size = 0;
        }

        int size() {
            return size;
        }

        boolean isFull() {
            return size >= MOST_RENAMES;
        }

        void add(int from, int to) {
            olds[size] = from;
            news[size] = to;
            size++;
        }

        int forward(int name) {
            int at = name;
            for (int i = 0; i < size; i++) {
                if (olds[i] == at) {
                    at = news[i];
                }
            }
            return at;
        }

        int back(int name) {
            int at = name;
            for (int i = size - 1; i >= 0; i--) {
                if (news[i] == at) {
                    at = olds[i];
                }
            }
            return at;
        }
    }

    /** How far names are apart; one row of the table of all their beginnings is held at a time. */
    private static final class Steps {
        private final int[] held;

        Steps() {
            held = new int[LONGEST_NAME + 1];
        }

        int between(Text first, Text second) {
            int width = Math.min(second.length(), LONGEST_NAME);
            for (int j = 0; j <= width; j++) {
                held[j] = j;
            }
            for (int i = 1; i <= first.length(); i++) {
                int corner = held[0];
                held[0] = i;
                for (int j = 1; j <= width; j++) {
                    int changed = first.at(i - 1) == second.at(j - 1) ? corner : corner + 1;
                    corner = held[j];
                    held[j] = Math.min(changed, Math.min(corner, held[j - 1]) + 1);
                }
            }
            return held[width];
        }
    }
}
