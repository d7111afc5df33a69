/**
 * Differences of two rows of letters, found by how far one comes on each
 * diagonal with so many edits. Every room that a call needs is made once, in
 * the constructor, so that a call makes no object at all.
 */
public final class DiagonalTexts {
    public static final int INVALID_ARGUMENT = -1000001;
    public static final int NOT_POSSIBLE = -1000002;
    public static final int LIMIT_REACHED = -1000003;
    public static final int NOT_FOUND = -1000004;

    private static final int NONE = -1;

    private static final int LETTERS = 8;
    private static final int MOST_LETTERS = 28;
    private static final int MOST_EDITS = 56;
    private static final int MOST_STATES = 4;
    private static final int MOST_TYPED = 60;
    private static final int MOST_BLOCKS = MOST_LETTERS * MOST_LETTERS;
    /** A part of one step has three characters, and each further step of it at most one more. */
    private static final int MOST_WRITTEN = 3 * MOST_EDITS;

    private static final int KEPT = 0;
    private static final int TAKEN_OUT = 1;
    private static final int PUT_IN = 2;

    private static final int LIMIT = 0;
    private static final int AROUND = 1;
    private static final int LEAST_BLOCK = 2;
    private static final int SETTINGS = 3;
    private static final int[] LEAST_VALUES = {0, 0, 1};
    private static final int[] MOST_VALUES = {56, 5, 9};
    private static final int[] FIRST_VALUES = {56, 1, 2};

    private static final int NOT_OF_THE_FORM = 1;
    private static final int TOO_FEW_LEFT = 2;
    private static final int TOO_MANY_LETTERS = 3;
    private static final int LETTERS_LEFT = 4;

    private final State now;
    private final History history;
    private final Row typed;
    private final Reaches reaches;
    private final Script script;
    private final Row written;
    private final Hunks hunks;
    private final Blocks blocks;
    private final Commons commons;
    private final Reader reader;

    public DiagonalTexts() {
        now = new State();
        history = new History();
        typed = new Row(MOST_TYPED);
        reaches = new Reaches();
        script = new Script();
        written = new Row(MOST_WRITTEN);
        hunks = new Hunks();
        blocks = new Blocks();
        commons = new Commons();
        reader = new Reader();
    }

    // ---- rows

    public int append(int row, int letter) {
        if (!isIn(row, 0, 1) || !isIn(letter, 0, LETTERS - 1)) {
            return INVALID_ARGUMENT;
        }
        Row longer = now.rowOf(row);
        if (longer.length >= MOST_LETTERS) {
            return LIMIT_REACHED;
        }
        history.record(now);
        longer.add(letter);
        return longer.length;
    }

    public int cut(int row, int from, int many) {
        if (!isIn(row, 0, 1) || from < 0 || !isIn(many, 1, MOST_LETTERS)) {
            return INVALID_ARGUMENT;
        }
        Row shorter = now.rowOf(row);
        // from + many could wrap around
        if (from > shorter.length - many) {
            return NOT_POSSIBLE;
        }
        history.record(now);
        shorter.remove(from, many);
        return shorter.length;
    }

    public int change(int row, int place, int letter) {
        if (!isIn(row, 0, 1) || !isIn(letter, 0, LETTERS - 1)) {
            return INVALID_ARGUMENT;
        }
        Row changed = now.rowOf(row);
        int before = changed.at(place);
        if (before == NONE) {
            return INVALID_ARGUMENT;
        }
        history.record(now);
        changed.put(place, letter);
        return before;
    }

    public int exchange() {
        history.record(now);
        now.swapRows();
        return now.first.length;
    }

    public int set(int what, int value) {
        if (!isIn(what, 0, SETTINGS - 1)
                || !isIn(value, LEAST_VALUES[what], MOST_VALUES[what])) {
            return INVALID_ARGUMENT;
        }
        history.record(now);
        int before = now.settings[what];
        now.settings[what] = value;
        return before;
    }

    public int letterAt(int row, int place) {
        if (!isIn(row, 0, 1) || place < 0) {
            return INVALID_ARGUMENT;
        }
        return orNotFound(now.rowOf(row).at(place));
    }

    public int same(int first, int second) {
        if (!isIn(first, 0, now.first.length) || !isIn(second, 0, now.second.length)) {
            return INVALID_ARGUMENT;
        }
        return now.alikeFrom(first, second);
    }

    // ---- reaches

    public int reach(int edits, int diagonal) {
        if (!isIn(edits, 0, MOST_EDITS) || !isIn(diagonal, -MOST_EDITS, MOST_EDITS)) {
            return INVALID_ARGUMENT;
        }
        reaches.find(now);
        if (edits > reaches.fewest) {
            return NOT_FOUND;
        }
        return orNotFound(reaches.at(edits, diagonal));
    }

    public int distance() {
        reaches.find(now);
        return isAboveLimit() ? LIMIT_REACHED : reaches.fewest;
    }

    public int stepOf(int step, int what) {
        if (step < 0 || !isIn(what, 0, 3)) {
            return INVALID_ARGUMENT;
        }
        if (!findScript()) {
            return LIMIT_REACHED;
        }
        if (step >= script.length) {
            return NOT_FOUND;
        }
        switch (what) {
            case 0:
                return script.kindAt(step);
            case 1:
                return script.letterOf(step);
            case 2:
                return script.firstDoneAt(step);
            default:
                return script.secondDoneAt(step);
        }
    }

    public int textAt(int index) {
        if (index < 0) {
            return INVALID_ARGUMENT;
        }
        if (!findScript()) {
            return LIMIT_REACHED;
        }
        script.writeTo(written);
        return orNotFound(written.at(index));
    }

    public long scripts() {
        return commons.countWays(now);
    }

    // ---- hunks and blocks

    public int hunkOf(int hunk, int what) {
        if (hunk < 0 || !isIn(what, 0, 4)) {
            return INVALID_ARGUMENT;
        }
        if (!findScript()) {
            return LIMIT_REACHED;
        }
        hunks.find(script, now.settings[AROUND]);
        if (hunk >= hunks.many) {
            return NOT_FOUND;
        }
        int from = hunks.beginOf(hunk);
        int end = hunks.endOf(hunk);
        switch (what) {
            case 0:
                return script.firstDoneAt(from);
            case 1:
                return script.firstDoneAt(end) - script.firstDoneAt(from);
            case 2:
                return script.secondDoneAt(from);
            case 3:
                return script.secondDoneAt(end) - script.secondDoneAt(from);
            default:
                return hunks.editsOf(hunk);
        }
    }

    public int movedOf(int block, int what) {
        if (block < 0 || !isIn(what, 0, 2)) {
            return INVALID_ARGUMENT;
        }
        if (!findScript()) {
            return LIMIT_REACHED;
        }
        blocks.find(script, now.settings[LEAST_BLOCK]);
        int found = blocks.inOrder(block);
        if (found == NONE) {
            return NOT_FOUND;
        }
        switch (what) {
            case 0:
                return blocks.sizeOf(found);
            case 1:
                return script.firstDoneAt(blocks.outOf(found));
            default:
                return script.secondDoneAt(blocks.inOf(found));
        }
    }

    // ---- what would be

    public int bestChange(int what) {
        if (!isIn(what, 0, 2)) {
            return INVALID_ARGUMENT;
        }
        commons.findBest(now);
        if (commons.bestPlace == NONE) {
            return NOT_FOUND;
        }
        switch (what) {
            case 0:
                return commons.bestPlace;
            case 1:
                return commons.bestLetter;
            default:
                return now.first.length + now.second.length - 2 * commons.bestCommon;
        }
    }

    public int count(int what) {
        if (isIn(what, 20, 20 + SETTINGS - 1)) {
            return now.settings[what - 20];
        }
        switch (what) {
            case 0:
                return now.first.length;
            case 1:
                return now.second.length;
            case 2:
            case 3:
            case 4:
            case 5:
                return countOfScript(what);
            case 6:
                return now.longestAlike();
            case 7:
                return history.many;
            case 8:
                return typed.length;
            default:
                return INVALID_ARGUMENT;
        }
    }

    public int undo() {
        if (history.many == 0) {
            return NOT_POSSIBLE;
        }
        history.restoreTo(now);
        return history.many;
    }

    // ---- texts

    public int type(int character) {
        if (!isIn(character, 32, 126)) {
            return INVALID_ARGUMENT;
        }
        if (typed.length >= MOST_TYPED) {
            return LIMIT_REACHED;
        }
        typed.add(character);
        return typed.length;
    }

    public int clearText() {
        int before = typed.length;
        typed.empty();
        return before;
    }

    public int fault(int what) {
        if (!isIn(what, 0, 2)) {
            return INVALID_ARGUMENT;
        }
        reader.read(typed, now.first);
        if (reader.reason == 0) {
            return NOT_FOUND;
        }
        switch (what) {
            case 0:
                return reader.position;
            case 1:
                return reader.reason;
            default:
                return orNotFound(reader.cause);
        }
    }

    public int apply() {
        reader.read(typed, now.first);
        if (reader.reason != 0) {
            return NOT_POSSIBLE;
        }
        history.record(now);
        now.second.copyFrom(reader.built);
        return now.second.length;
    }

    // ---- what the calls share

    private static boolean isIn(int value, int least, int most) {
        return value >= least && value <= most;
    }

    private static int orNotFound(int value) {
        return value == NONE ? NOT_FOUND : value;
    }

    private boolean isAboveLimit() {
        return reaches.fewest > now.settings[LIMIT];
    }

    /** Tells whether the least script may be told; only then it is rebuilt. */
    private boolean findScript() {
        reaches.find(now);
        if (isAboveLimit()) {
            return false;
        }
        script.rebuild(now, reaches);
        return true;
    }

    private int countOfScript(int what) {
        if (!findScript()) {
            return LIMIT_REACHED;
        }
        switch (what) {
            case 2:
                return script.length;
            case 3:
                return script.length - reaches.fewest;
            case 4:
                hunks.find(script, now.settings[AROUND]);
                return hunks.many;
            default:
                blocks.find(script, now.settings[LEAST_BLOCK]);
                return blocks.many;
        }
    }

    /** Letters or characters, at most so many; a place without one has NONE. */
    private static final class Row {
        private final int[] signs;
        private int length;

        Row(int most) {
            signs = new int[Math.max(most, 0)];
        }

        int at(int place) {
            if (place < 0 || place >= length || place >= signs.length) {
                return NONE;
            }
            return signs[place];
        }

        void put(int place, int sign) {
            if (place >= 0 && place < length && place < signs.length) {
                signs[place] = sign;
            }
        }

        void add(int sign) {
            if (length >= 0 && length < signs.length) {
                signs[length] = sign;
                length++;
            }
        }

        void empty() {
            length = 0;
        }

        /** The caller sees to it that so many stand there. */
        void remove(int from, int many) {
            for (int place = from + many; place < length; place++) {
                put(place - many, at(place));
            }
            length = Math.max(length - many, 0);
        }

        void copyFrom(Row other) {
            empty();
            for (int place = 0; place < other.length; place++) {
                add(other.at(place));
            }
        }
    }

    /** All that a change records. */
    private static final class State {
        private Row first;
        private Row second;
        private final int[] settings;

        State() {
            first = new Row(MOST_LETTERS);
            second = new Row(MOST_LETTERS);
            settings = new int[SETTINGS];
            for (int what = 0; what < SETTINGS; what++) {
                settings[what] = FIRST_VALUES[what];
            }
        }

        Row rowOf(int row) {
            return row == 0 ? first : second;
        }

        void swapRows() {
            Row before = first;
            first = second;
            second = before;
        }

        void copyFrom(State other) {
            first.copyFrom(other.first);
            second.copyFrom(other.second);
            for (int what = 0; what < SETTINGS; what++) {
                settings[what] = other.settings[what];
            }
        }

        /** Tells whether both letters are there and the same. */
        boolean isAlike(int inFirst, int inSecond) {
            int letter = first.at(inFirst);
            return letter != NONE && letter == second.at(inSecond);
        }

        int alikeFrom(int inFirst, int inSecond) {
            int many = 0;
            while (many < MOST_LETTERS && isAlike(inFirst + many, inSecond + many)) {
                many++;
            }
            return many;
        }

        int longestAlike() {
            int longest = 0;
            for (int x = 0; x < first.length; x++) {
                for (int y = 0; y < second.length; y++) {
                    // what goes on from the letters before is a part of a longer one
                    if (!isAlike(x - 1, y - 1)) {
                        longest = Math.max(longest, alikeFrom(x, y));
                    }
                }
            }
            return longest;
        }
    }

    /** The latest states, the oldest one first. */
    private static final class History {
        private final State[] states;
        private int many;

        History() {
            states = new State[MOST_STATES];
            for (int place = 0; place < MOST_STATES; place++) {
                states[place] = new State();
            }
        }

        void record(State state) {
            if (many >= MOST_STATES) {
                dropOldest();
            }
            if (many >= 0 && many < MOST_STATES) {
                states[many].copyFrom(state);
                many++;
            }
        }

        void restoreTo(State state) {
            if (many > 0 && many <= MOST_STATES) {
                many--;
                state.copyFrom(states[many]);
            }
        }

        /** The room of the oldest state is used again for the next one. */
        private void dropOldest() {
            State oldest = states[0];
            for (int place = 1; place < MOST_STATES; place++) {
                states[place - 1] = states[place];
            }
            states[MOST_STATES - 1] = oldest;
            many = MOST_STATES - 1;
        }
    }

    /** How far one comes; with d edits there are d + 1 diagonals, so the room is a triangle. */
    private static final class Reaches {
        private final int[] reached;
        private int fewest;

        Reaches() {
            reached = new int[(MOST_EDITS + 1) * (MOST_EDITS + 2) / 2];
        }

        void find(State rows) {
            int lastDiagonal = rows.first.length - rows.second.length;
            // as many edits as there are letters are always enough
            for (int edits = 0; edits <= MOST_EDITS; edits++) {
                fewest = edits;
                for (int diagonal = -edits; diagonal <= edits; diagonal += 2) {
                    int begin = beginOf(edits, diagonal);
                    put(edits, diagonal, begin + rows.alikeFrom(begin, begin - diagonal));
                }
                if (at(edits, lastDiagonal) >= rows.first.length) {
                    return;
                }
            }
        }

        /** NONE if the diagonal is none of those of so many edits. */
        int at(int edits, int diagonal) {
            int place = placeOf(edits, diagonal);
            return place == NONE ? NONE : reached[place];
        }

        /** Where one stands right behind the last of the edits, ahead of the kept letters. */
        int beginOf(int edits, int diagonal) {
            if (edits <= 0) {
                return 0;
            }
            // of two numbers the less one plus 1 is never above the other one
            return Math.max(at(edits - 1, diagonal - 1) + 1, at(edits - 1, diagonal + 1));
        }

        /** On the outermost diagonals, too: the one beyond them has NONE, less than any reach. */
        boolean isPutIn(int edits, int diagonal) {
            return at(edits - 1, diagonal - 1) < at(edits - 1, diagonal + 1);
        }

        private void put(int edits, int diagonal, int value) {
            int place = placeOf(edits, diagonal);
            if (place != NONE) {
                reached[place] = value;
            }
        }

        private static int placeOf(int edits, int diagonal) {
            if (edits < 0 || edits > MOST_EDITS || diagonal < -edits || diagonal > edits
                    || (edits + diagonal) % 2 != 0) {
                return NONE;
            }
            return edits * (edits + 1) / 2 + (edits + diagonal) / 2;
        }
    }

    /** The steps of the least script; behind the last one stands what is done at the end. */
    private static final class Script {
        private final int[] kinds;
        private final int[] letters;
        private final int[] firstDone;
        private final int[] secondDone;
        private int length;

        Script() {
            kinds = new int[MOST_EDITS + 1];
            letters = new int[MOST_EDITS + 1];
            firstDone = new int[MOST_EDITS + 1];
            secondDone = new int[MOST_EDITS + 1];
        }

        void rebuild(State rows, Reaches reaches) {
            int x = rows.first.length;
            int y = rows.second.length;
            // an edit does one letter of one row, a kept letter is one of each
            length = (x + y + reaches.fewest) / 2;
            int step = length;
            put(step, NONE, NONE, x, y);
            for (int edits = reaches.fewest; edits >= 0; edits--) {
                int begin = reaches.beginOf(edits, x - y);
                while (x > begin) {
                    x--;
                    y--;
                    step--;
                    put(step, KEPT, rows.first.at(x), x, y);
                }
                // ahead of the first edit nothing but kept letters is left
                if (edits > 0) {
                    boolean isPutIn = reaches.isPutIn(edits, x - y);
                    x -= isPutIn ? 0 : 1;
                    y -= isPutIn ? 1 : 0;
                    step--;
                    put(step, isPutIn ? PUT_IN : TAKEN_OUT,
                            isPutIn ? rows.second.at(y) : rows.first.at(x), x, y);
                }
            }
        }

        int kindAt(int step) {
            return step >= 0 && step < length && step < kinds.length ? kinds[step] : NONE;
        }

        int letterOf(int step) {
            return step >= 0 && step < length && step < letters.length ? letters[step] : NONE;
        }

        int firstDoneAt(int step) {
            return step >= 0 && step <= length && step < firstDone.length ? firstDone[step] : NONE;
        }

        int secondDoneAt(int step) {
            return step >= 0 && step <= length && step < secondDone.length ? secondDone[step] : NONE;
        }

        boolean isEdit(int step) {
            int kind = kindAt(step);
            return kind == TAKEN_OUT || kind == PUT_IN;
        }

        /** Tells whether the one step takes out the letter that the other one puts in. */
        boolean isMoved(int out, int in) {
            return kindAt(out) == TAKEN_OUT && kindAt(in) == PUT_IN && letterOf(out) == letterOf(in);
        }

        void writeTo(Row text) {
            text.empty();
            int from = 0;
            for (int step = 0; step < length; step++) {
                if (kindAt(step + 1) != kindAt(step)) {
                    writePart(text, from, step + 1);
                    from = step + 1;
                }
            }
        }

        private void writePart(Row text, int from, int end) {
            int kind = kindAt(from);
            if (kind == PUT_IN) {
                text.add('+');
                for (int step = from; step < end; step++) {
                    text.add('a' + letterOf(step));
                }
            } else {
                text.add(kind == KEPT ? '=' : '-');
                writeNumber(text, end - from);
            }
            text.add(';');
        }

        private static void writeNumber(Row text, int number) {
            if (number >= 10) {
                text.add('0' + number / 10);
            }
            text.add('0' + number % 10);
        }

        private void put(int step, int kind, int letter, int x, int y) {
            if (step >= 0 && step < kinds.length && step < letters.length
                    && step < firstDone.length && step < secondDone.length) {
                kinds[step] = kind;
                letters[step] = letter;
                firstDone[step] = x;
                secondDone[step] = y;
            }
        }
    }

    /** Each hunk by the steps from which and up to which it goes. */
    private static final class Hunks {
        private final int[] begins;
        private final int[] ends;
        private final int[] edits;
        private int many;

        Hunks() {
            begins = new int[MOST_EDITS];
            ends = new int[MOST_EDITS];
            edits = new int[MOST_EDITS];
        }

        void find(Script script, int around) {
            many = 0;
            int lastEdit = NONE;
            for (int step = 0; step < script.length; step++) {
                if (script.isEdit(step)) {
                    if (many == 0 || step - lastEdit - 1 > 2 * around) {
                        open(Math.max(step - around, 0));
                    }
                    lastEdit = step;
                    growTo(Math.min(step + 1 + around, script.length));
                }
            }
        }

        int beginOf(int hunk) {
            return hunk >= 0 && hunk < many && hunk < begins.length ? begins[hunk] : NONE;
        }

        int endOf(int hunk) {
            return hunk >= 0 && hunk < many && hunk < ends.length ? ends[hunk] : NONE;
        }

        int editsOf(int hunk) {
            return hunk >= 0 && hunk < many && hunk < edits.length ? edits[hunk] : NONE;
        }

        private void open(int begin) {
            if (many >= 0 && many < begins.length && many < edits.length) {
                begins[many] = begin;
                edits[many] = 0;
                many++;
            }
        }

        private void growTo(int end) {
            int hunk = many - 1;
            if (hunk >= 0 && hunk < ends.length && hunk < edits.length) {
                ends[hunk] = end;
                edits[hunk]++;
            }
        }
    }

    /** Moved blocks as they are found: by their place in the first row, then in the second one. */
    private static final class Blocks {
        private final int[] sizes;
        private final int[] outs;
        private final int[] ins;
        private int many;

        Blocks() {
            sizes = new int[MOST_BLOCKS];
            outs = new int[MOST_BLOCKS];
            ins = new int[MOST_BLOCKS];
        }

        void find(Script script, int least) {
            many = 0;
            for (int out = 0; out < script.length; out++) {
                for (int in = 0; in < script.length; in++) {
                    // what goes on from the steps before is a part of a longer block
                    if (script.isMoved(out, in) && !script.isMoved(out - 1, in - 1)) {
                        addIfLong(sizeFrom(script, out, in), out, in, least);
                    }
                }
            }
        }

        /** The number under which the block is kept that is at this place in order. */
        int inOrder(int block) {
            int ahead = block;
            for (int size = MOST_LETTERS; size > 0; size--) {
                for (int kept = 0; kept < many; kept++) {
                    if (sizeOf(kept) == size) {
                        if (ahead == 0) {
                            return kept;
                        }
                        ahead--;
                    }
                }
            }
            return NONE;
        }

        int sizeOf(int kept) {
            return kept >= 0 && kept < many && kept < sizes.length ? sizes[kept] : NONE;
        }

        int outOf(int kept) {
            return kept >= 0 && kept < many && kept < outs.length ? outs[kept] : NONE;
        }

        int inOf(int kept) {
            return kept >= 0 && kept < many && kept < ins.length ? ins[kept] : NONE;
        }

        private static int sizeFrom(Script script, int out, int in) {
            int size = 0;
            while (size < MOST_LETTERS && script.isMoved(out + size, in + size)) {
                size++;
            }
            return size;
        }

        private void addIfLong(int size, int out, int in, int least) {
            if (size >= least && many >= 0
                    && many < sizes.length && many < outs.length && many < ins.length) {
                sizes[many] = size;
                outs[many] = out;
                ins[many] = in;
                many++;
            }
        }
    }

    /** A number for so many letters of the first row and so many of the second one; 0 outside. */
    private static final class Grid {
        private final long[] numbers;

        Grid() {
            numbers = new long[(MOST_LETTERS + 1) * (MOST_LETTERS + 1)];
        }

        long at(int x, int y) {
            return isInside(x, y) ? numbers[x * (MOST_LETTERS + 1) + y] : 0;
        }

        void put(int x, int y, long number) {
            if (isInside(x, y)) {
                numbers[x * (MOST_LETTERS + 1) + y] = number;
            }
        }

        private static boolean isInside(int x, int y) {
            return isIn(x, 0, MOST_LETTERS) && isIn(y, 0, MOST_LETTERS);
        }
    }

    /**
     * The most letters that can be kept of the rows' beginnings and of their
     * ends. With n and m letters in all, the fewest edits are always n + m less
     * 2 for each letter that can be kept.
     */
    private static final class Commons {
        private final Grid ofBeginnings;
        private final Grid ofEnds;
        private final Grid ways;
        private int bestPlace;
        private int bestLetter;
        private int bestCommon;

        Commons() {
            ofBeginnings = new Grid();
            ofEnds = new Grid();
            ways = new Grid();
        }

        long countWays(State rows) {
            fillBeginnings(rows);
            for (int x = 0; x <= rows.first.length; x++) {
                for (int y = 0; y <= rows.second.length; y++) {
                    ways.put(x, y, x == 0 && y == 0 ? 1 : waysTo(rows, x, y));
                }
            }
            return ways.at(rows.first.length, rows.second.length);
        }

        /** A change by which more can be kept keeps the changed letter; of equal ones the first is taken. */
        void findBest(State rows) {
            fillBeginnings(rows);
            fillEnds(rows);
            bestCommon = (int) ofBeginnings.at(rows.first.length, rows.second.length);
            bestPlace = NONE;
            bestLetter = NONE;
            for (int place = 0; place < rows.first.length; place++) {
                for (int letter = 0; letter < LETTERS; letter++) {
                    int common = commonWith(rows, place, letter);
                    if (common > bestCommon) {
                        bestCommon = common;
                        bestPlace = place;
                        bestLetter = letter;
                    }
                }
            }
        }

        private void fillBeginnings(State rows) {
            for (int x = 0; x <= rows.first.length; x++) {
                for (int y = 0; y <= rows.second.length; y++) {
                    ofBeginnings.put(x, y, rows.isAlike(x - 1, y - 1)
                            ? ofBeginnings.at(x - 1, y - 1) + 1
                            : Math.max(ofBeginnings.at(x - 1, y), ofBeginnings.at(x, y - 1)));
                }
            }
        }

        private void fillEnds(State rows) {
            for (int x = rows.first.length; x >= 0; x--) {
                for (int y = rows.second.length; y >= 0; y--) {
                    ofEnds.put(x, y, commonOfEnds(rows, x, y));
                }
            }
        }

        private long commonOfEnds(State rows, int x, int y) {
            // beyond the rows stand numbers of longer rows of earlier calls
            if (x >= rows.first.length || y >= rows.second.length) {
                return 0;
            }
            return rows.isAlike(x, y)
                    ? ofEnds.at(x + 1, y + 1) + 1
                    : Math.max(ofEnds.at(x + 1, y), ofEnds.at(x, y + 1));
        }

        /** A step comes from where as many letters are kept, or one less if it keeps one itself. */
        private long waysTo(State rows, int x, int y) {
            long common = ofBeginnings.at(x, y);
            long sum = 0;
            if (ofBeginnings.at(x - 1, y) == common) {
                sum += ways.at(x - 1, y);
            }
            if (ofBeginnings.at(x, y - 1) == common) {
                sum += ways.at(x, y - 1);
            }
            if (rows.isAlike(x - 1, y - 1)) {
                sum += ways.at(x - 1, y - 1);
            }
            return sum;
        }

        /** How many letters could be kept, this letter at this place of the first row one of them. */
        private int commonWith(State rows, int place, int letter) {
            long most = 0;
            for (int y = 0; y < rows.second.length; y++) {
                if (rows.second.at(y) == letter) {
                    most = Math.max(most, ofBeginnings.at(place, y) + 1 + ofEnds.at(place + 1, y + 1));
                }
            }
            return (int) most;
        }
    }

    /** Reads the typed text as a script; a reason of 0 is none. */
    private static final class Reader {
        private final Row built;
        private int done;
        private int position;
        private int reason;
        private int cause;

        Reader() {
            built = new Row(MOST_LETTERS);
        }

        void read(Row text, Row first) {
            built.empty();
            done = 0;
            reason = 0;
            int from = 0;
            // the part that follows begins behind the ";" of the one before
            for (int at = 0; at < text.length && reason == 0; at++) {
                if (at == from) {
                    readPart(text, first, from);
                    from = endOf(text, from);
                }
            }
            if (reason == 0 && done < first.length) {
                tell(text.length, LETTERS_LEFT, first.length - done);
            }
        }

        private void readPart(Row text, Row first, int from) {
            int broken = breakOf(text, from);
            if (broken != NONE) {
                tell(from, NOT_OF_THE_FORM, broken);
                return;
            }
            int sign = text.at(from);
            int many = sign == '+' ? endOf(text, from) - from - 2 : numberAt(text, from + 1);
            if (sign != '+' && many > first.length - done) {
                tell(from, TOO_FEW_LEFT, NONE);
            } else if (sign != '-' && built.length + many > MOST_LETTERS) {
                tell(from, TOO_MANY_LETTERS, NONE);
            } else if (sign == '+') {
                putIn(text, from + 1, many);
            } else {
                takeOrKeep(first, many, sign == '=');
            }
        }

        private void tell(int where, int why, int what) {
            position = where;
            reason = why;
            cause = what;
        }

        private void putIn(Row text, int from, int many) {
            for (int place = from; place < from + many; place++) {
                built.add(text.at(place) - 'a');
            }
        }

        private void takeOrKeep(Row first, int many, boolean isKept) {
            for (int taken = 0; taken < many; taken++) {
                if (isKept) {
                    built.add(first.at(done));
                }
                done++;
            }
        }

        /** Right behind the next ";", or the end of the text. */
        private static int endOf(Row text, int from) {
            for (int place = from; place < text.length; place++) {
                if (text.at(place) == ';') {
                    return place + 1;
                }
            }
            return text.length;
        }

        /** At which character the part is no longer of the form; NONE if all of it is. */
        private static int breakOf(Row text, int from) {
            int sign = text.at(from);
            if (sign == '+') {
                return breakOfLetters(text, from);
            }
            return sign == '=' || sign == '-' ? breakOfNumber(text, from) : 0;
        }

        private static int breakOfLetters(Row text, int from) {
            int many = 0;
            while (many < MOST_TYPED && isIn(text.at(from + 1 + many), 'a', 'h')) {
                many++;
            }
            return many > 0 && text.at(from + 1 + many) == ';' ? NONE : many + 1;
        }

        private static int breakOfNumber(Row text, int from) {
            if (!isIn(text.at(from + 1), '1', '9')) {
                return 1;
            }
            int digits = isIn(text.at(from + 2), '0', '9') ? 2 : 1;
            return text.at(from + 1 + digits) == ';' ? NONE : digits + 1;
        }

        /** The caller sees to it that a number stands there, with its ";". */
        private static int numberAt(Row text, int from) {
            int tens = text.at(from) - '0';
            int ones = text.at(from + 1);
            return ones == ';' ? tens : tens * 10 + ones - '0';
        }
    }
}
