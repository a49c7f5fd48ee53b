import java.util.Arrays;

/**
 * A finding aid: levels in a tree, read from a text, with dates, extents, restrictions, names;
 * moved, published in part, compared with another text of the same units, printed.
 *
 * All rows are made with the object and used again, so that no call makes anything.
 */
public final class FindingAid {
    public static final int NONE = -1;
    public static final int RANGE = -2;
    public static final int STATE = -3;
    public static final int FULL = -4;

    private static final int MOST_SIGNS = 3000;
    private static final int MOST_LEVELS = 100;
    private static final int MOST_DEPTH = 8;
    private static final int MOST_LETTERS = 16;
    private static final int MOST_DIGITS = 4;
    private static final int YEAR_DIGITS = 4;
    private static final int EARLIEST_YEAR = 1000;
    private static final int LATEST_YEAR = 2999;
    private static final int ITEM = 3;
    private static final int UNITS = 3;
    private static final int RESTRICTION_KINDS = 4;
    private static final int MOST_REASON = 99;
    private static final int MOST_HEADING = 999;
    private static final int HEADINGS_OF_ONE = 4;
    private static final int MOVES_TOLD = 5;
    private static final int TITLE_BIT = 1;
    private static final int DATE_BIT = 2;
    private static final int EXTENT_BIT = 4;
    private static final int LINE_END = 10;
    private static final int SPACE = 32;
    // ++++++++i9999 abcdefghijklmnop d1900-1999? e9999b and the line's end
    private static final int LONGEST_LINE = 50;
    private static final char[] KIND_SIGNS = {'f', 's', 'u', 'i'};
    private static final char[] UNIT_SIGNS = {'b', 'm', 'p'};

    private final TextReader reader;
    private final Notes notes;
    private final Sums sums;
    private final Asks asks;
    private final Page page;
    private Levels here;
    private Levels other;

    public FindingAid() {
        reader = new TextReader();
        notes = new Notes();
        sums = new Sums();
        asks = new Asks();
        page = new Page();
        here = new Levels();
        other = new Levels();
    }

    public void sign(int c) {
        reader.hear(c & 255);
    }

    public int read() throws IllegalStateException {
        if (!reader.readText()) {
            throw new IllegalStateException("the text is wrong");
        }
        here = reader.exchange(here);
        notes.forget();
        asks.outdated = true;
        return here.count;
    }

    public int place() {
        return reader.wrong;
    }

    public int level(int i, int what) {
        if (!here.has(i)) {
            return NONE;
        }
        switch (what) {
            case 0: return here.kind[i];
            case 1: return here.number[i];
            case 2: return here.above[i];
            case 3: return here.depth[i];
            case 4: return here.firstYear[i];
            case 5: return here.lastYear[i];
            case 6: return here.doubt[i];
            case 7: return here.amount[i];
            case 8: return here.unit[i];
            case 9: return here.titleLength[i];
            default: return NONE;
        }
    }

    public int letter(int i, int k) {
        if (!here.has(i) || k < 0 || k >= here.titleLength[i]) {
            return NONE;
        }
        return here.titleSign(i, k);
    }

    public int compare(int a, int b) {
        if (!here.has(a) || !here.has(b)) {
            return RANGE;
        }
        return here.orderOfDates(a, b);
    }

    public int extent(int i, int unit) {
        if (!here.has(i)) {
            return NONE;
        }
        if (unit < 0 || unit >= UNITS) {
            return RANGE;
        }
        sums.weigh(here);
        return sums.wholeOf(i, unit);
    }

    public int differ(int i) {
        sums.weigh(here);
        int found = 0;
        for (int x = 0; x < here.count; x++) {
            if (sums.contradicts(here, x)) {
                if (found == i) {
                    return x;
                }
                found++;
            }
        }
        return NONE;
    }

    public int twice(int i) {
        int found = 0;
        for (int x = 0; x < here.count; x++) {
            if (here.repeatsNumber(x)) {
                if (found == i) {
                    return x;
                }
                found++;
            }
        }
        return NONE;
    }

    public int restrict(int i, int kind, int reason) {
        if (!here.has(i)) {
            return NONE;
        }
        if (!isRestrictionKind(kind) || reason < 0 || reason > MOST_REASON) {
            return RANGE;
        }
        notes.setReason(i, kind, reason);
        return 1;
    }

    public int restricted(int i, int kind) {
        if (!here.has(i)) {
            return NONE;
        }
        if (!isRestrictionKind(kind)) {
            return RANGE;
        }
        int x = i;
        for (int step = 0; step <= MOST_DEPTH && here.has(x); step++) {
            int reason = notes.reasonOf(x, kind);
            if (reason != 0) {
                return reason;
            }
            x = here.above[x];
        }
        return 0;
    }

    public int name(int i, int heading) {
        if (!here.has(i)) {
            return NONE;
        }
        if (heading < 1 || heading > MOST_HEADING) {
            return RANGE;
        }
        if (notes.hasHeading(i, heading)) {
            return STATE;
        }
        if (notes.headingCount[i] >= HEADINGS_OF_ONE) {
            return FULL;
        }
        notes.addHeading(i, heading);
        return notes.headingCount[i];
    }

    public int named(int heading, int j) {
        int found = 0;
        for (int x = 0; x < here.count; x++) {
            if (notes.hasHeading(x, heading)) {
                if (found == j) {
                    return x;
                }
                found++;
            }
        }
        return NONE;
    }

    public int move(int i, int under) {
        if (!here.has(i) || !here.has(under)) {
            return NONE;
        }
        if (i == 0 || !here.mayHang(i, under)) {
            return STATE;
        }
        notes.addMove(i, here.above[i]);
        here.hang(i, under);
        return 1;
    }

    public int was(int i, int j) {
        if (!here.has(i) || j < 0 || j >= notes.moveCount[i]) {
            return NONE;
        }
        return notes.underBefore(i, j);
    }

    public int published(int i, boolean on) {
        if (!here.has(i)) {
            return NONE;
        }
        notes.hidden[i] = !on;
        return isShown(i) ? 1 : 0;
    }

    public int merge() throws IllegalStateException {
        if (!reader.readText()) {
            throw new IllegalStateException("the text is wrong");
        }
        other = reader.exchange(other);
        asks.gather(here, other);
        return asks.count;
    }

    public int ask(int i, int what) {
        if (!asks.has(i)) {
            return NONE;
        }
        switch (what) {
            case 0: return asks.levelHere[i];
            case 1: return asks.bits[i];
            default: return NONE;
        }
    }

    public int take(int i) {
        if (!asks.has(i)) {
            return NONE;
        }
        if (asks.outdated || asks.taken[i]) {
            return 0;
        }
        here.copyParts(asks.levelHere[i], other, asks.levelThere[i]);
        asks.taken[i] = true;
        return 1;
    }

    public int print() {
        page.write(here, notes);
        return page.length;
    }

    public int at(int i) {
        if (i < 0 || i >= page.length) {
            return NONE;
        }
        return page.signs[i];
    }

    private boolean isShown(int i) {
        int x = i;
        for (int step = 0; step <= MOST_DEPTH && here.has(x); step++) {
            if (notes.hidden[x]) {
                return false;
            }
            x = here.above[x];
        }
        return true;
    }

    private static boolean isRestrictionKind(int kind) {
        return kind >= 0 && kind < RESTRICTION_KINDS;
    }

    private static int order(int a, int b) {
        if (a == b) {
            return 0;
        }
        return a < b ? -1 : 1;
    }

    private static int indexIn(char[] row, int c) {
        for (int k = 0; k < row.length; k++) {
            if (row[k] == c) {
                return k;
            }
        }
        return NONE;
    }

    /** The levels of one text: what it tells of each, a row for each thing, and their tree. */
    private static final class Levels {
        int count = 0;
        final int[] kind = new int[MOST_LEVELS];
        final int[] number = new int[MOST_LEVELS];
        final int[] above = new int[MOST_LEVELS];
        final int[] depth = new int[MOST_LEVELS];
        final int[] firstYear = new int[MOST_LEVELS];
        final int[] lastYear = new int[MOST_LEVELS];
        final int[] doubt = new int[MOST_LEVELS];
        final int[] amount = new int[MOST_LEVELS];
        final int[] unit = new int[MOST_LEVELS];
        final int[] titleLength = new int[MOST_LEVELS];
        final int[] titleSigns = new int[MOST_LEVELS * MOST_LETTERS];

        boolean has(int i) {
            return i >= 0 && i < count;
        }

        int titleSign(int i, int k) {
            return titleSigns[i * MOST_LETTERS + k];
        }

        void addTitleSign(int i, int c) {
            if (titleLength[i] < MOST_LETTERS) {
                titleSigns[i * MOST_LETTERS + titleLength[i]] = c;
                titleLength[i]++;
            }
        }

        /** A level more, of which no part is told yet. */
        void addBare(int itsDepth) {
            if (count >= MOST_LEVELS) {
                return;
            }
            int i = count;
            count++;
            depth[i] = itsDepth;
            above[i] = latestOfDepth(i - 1, itsDepth - 1);
            titleLength[i] = 0;
            firstYear[i] = NONE;
            lastYear[i] = NONE;
            doubt[i] = 0;
            amount[i] = NONE;
            unit[i] = NONE;
        }

        private int latestOfDepth(int from, int wanted) {
            for (int x = from; x >= 0; x--) {
                if (depth[x] == wanted) {
                    return x;
                }
            }
            return NONE;
        }

        int orderOfDates(int a, int b) {
            boolean undatedA = firstYear[a] == NONE;
            boolean undatedB = firstYear[b] == NONE;
            if (undatedA || undatedB) {
                return order(undatedA ? 1 : 0, undatedB ? 1 : 0);
            }
            if (firstYear[a] != firstYear[b]) {
                return order(firstYear[a], firstYear[b]);
            }
            if (lastYear[a] != lastYear[b]) {
                return order(lastYear[a], lastYear[b]);
            }
            return order(doubt[a], doubt[b]);
        }

        boolean repeatsNumber(int i) {
            for (int x = 0; x < i; x++) {
                if (above[x] == above[i] && number[x] == number[i]) {
                    return true;
                }
            }
            return false;
        }

        /** Whether a level is the top one itself, or under it, however deep. */
        boolean isWithin(int i, int top) {
            int x = i;
            for (int step = 0; step <= MOST_DEPTH && has(x); step++) {
                if (x == top) {
                    return true;
                }
                x = above[x];
            }
            return false;
        }

        boolean mayHang(int i, int under) {
            if (isWithin(under, i) || kind[under] > kind[i] || kind[under] == ITEM) {
                return false;
            }
            return deepestWithin(i) + deeperUnder(i, under) <= MOST_DEPTH;
        }

        void hang(int i, int under) {
            int deeper = deeperUnder(i, under);
            for (int x = 0; x < count; x++) {
                if (isWithin(x, i)) {
                    depth[x] += deeper;
                }
            }
            above[i] = under;
        }

        private int deeperUnder(int i, int under) {
            return depth[under] + 1 - depth[i];
        }

        private int deepestWithin(int top) {
            int deepest = 0;
            for (int x = 0; x < count; x++) {
                if (isWithin(x, top)) {
                    deepest = Math.max(deepest, depth[x]);
                }
            }
            return deepest;
        }

        /** Of those right under a level, by NUMBERS and then by their own: the one behind `last`. */
        int nextUnder(int top, int last) {
            int best = NONE;
            for (int x = 0; x < count; x++) {
                if (above[x] == top && (last == NONE || isBehind(x, last))
                        && (best == NONE || isBehind(best, x))) {
                    best = x;
                }
            }
            return best;
        }

        private boolean isBehind(int a, int b) {
            if (number[a] != number[b]) {
                return number[a] > number[b];
            }
            return a > b;
        }

        int firstWithPathOf(Levels there, int j) {
            for (int x = 0; x < count; x++) {
                if (hasPathOf(x, there, j)) {
                    return x;
                }
            }
            return NONE;
        }

        private boolean hasPathOf(int i, Levels there, int j) {
            int x = i;
            int y = j;
            for (int step = 0; step <= MOST_DEPTH && has(x) && there.has(y); step++) {
                if (number[x] != there.number[y]) {
                    return false;
                }
                x = above[x];
                y = there.above[y];
            }
            return !has(x) && !there.has(y);
        }

        int differenceBits(int i, Levels there, int j) {
            int bits = 0;
            if (!hasTitleOf(i, there, j)) {
                bits |= TITLE_BIT;
            }
            if (firstYear[i] != there.firstYear[j] || lastYear[i] != there.lastYear[j]
                    || doubt[i] != there.doubt[j]) {
                bits |= DATE_BIT;
            }
            if (amount[i] != there.amount[j] || unit[i] != there.unit[j]) {
                bits |= EXTENT_BIT;
            }
            return bits;
        }

        private boolean hasTitleOf(int i, Levels there, int j) {
            if (titleLength[i] != there.titleLength[j]) {
                return false;
            }
            for (int k = 0; k < titleLength[i]; k++) {
                if (titleSign(i, k) != there.titleSign(j, k)) {
                    return false;
                }
            }
            return true;
        }

        void copyParts(int i, Levels there, int j) {
            titleLength[i] = 0;
            for (int k = 0; k < there.titleLength[j]; k++) {
                addTitleSign(i, there.titleSign(j, k));
            }
            firstYear[i] = there.firstYear[j];
            lastYear[i] = there.lastYear[j];
            doubt[i] = there.doubt[j];
            amount[i] = there.amount[j];
            unit[i] = there.unit[j];
        }
    }

    /** Keeps what is told, and reads it as a TEXT, sign by sign, up to the first that is WRONG. */
    private static final class TextReader {
        private final int[] signs = new int[MOST_SIGNS];
        private int length = 0;
        private int next = 0;
        int wrong = NONE;
        // levels of its own, so that a text that is WRONG leaves all others alone
        private Levels levels = new Levels();

        void hear(int c) {
            if (length < MOST_SIGNS) {
                signs[length] = c;
                length++;
            }
        }

        /** Hands over the levels that were read; the next text is read into the used ones. */
        Levels exchange(Levels used) {
            Levels fresh = levels;
            levels = used;
            return fresh;
        }

        /** Whether the text is right; its signs are gone either way. */
        boolean readText() {
            next = 0;
            wrong = NONE;
            levels.count = 0;
            boolean right = readLines();
            length = 0;
            return right;
        }

        private boolean readLines() {
            for (int i = 0; i < MOST_LEVELS; i++) {
                if (!readLine(i)) {
                    return false;
                }
                if (next >= length) {
                    return true;
                }
            }
            return wrongAt(next);
        }

        private boolean readLine(int i) {
            return readDepth(i) && readKind(i) && readNumber(i) && readTitle(i)
                    && readDate(i) && readExtent(i) && expect(LINE_END);
        }

        private boolean readDepth(int i) {
            int most = i == 0 ? 0 : Math.min(MOST_DEPTH, levels.depth[i - 1] + 1);
            int depth = 0;
            while (depth < most && ahead(0) == '+') {
                depth++;
                next++;
            }
            if (i > 0 && depth == 0) {
                return wrongAt(next);
            }
            // a + too many stands where the KIND is wanted, and is told there
            levels.addBare(depth);
            return true;
        }

        private boolean readKind(int i) {
            int kind = indexIn(KIND_SIGNS, ahead(0));
            int above = levels.above[i];
            if (kind == NONE) {
                return wrongAt(next);
            }
            if (levels.has(above) && (levels.kind[above] == ITEM || kind < levels.kind[above])) {
                return wrongAt(next);
            }
            levels.kind[i] = kind;
            next++;
            return true;
        }

        private boolean readNumber(int i) {
            levels.number[i] = readDigits();
            return levels.number[i] != NONE;
        }

        private boolean readTitle(int i) {
            if (!expect(SPACE)) {
                return false;
            }
            for (int k = 0; k < MOST_LETTERS && isLetter(ahead(0)); k++) {
                levels.addTitleSign(i, ahead(0));
                next++;
            }
            return levels.titleLength[i] > 0 || wrongAt(next);
        }

        private boolean readDate(int i) {
            if (ahead(0) != SPACE || ahead(1) != 'd') {
                return true;
            }
            next += 2;
            int first = readYear(EARLIEST_YEAR);
            int last = first;
            if (first != NONE && ahead(0) == '-') {
                next++;
                last = readYear(first);
            }
            if (last == NONE) {
                return false;
            }
            levels.firstYear[i] = first;
            levels.lastYear[i] = last;
            if (ahead(0) == '?') {
                levels.doubt[i] = 1;
                next++;
            }
            return true;
        }

        private boolean readExtent(int i) {
            if (ahead(0) != SPACE) {
                return true;
            }
            next++;
            if (!expect('e')) {
                return false;
            }
            levels.amount[i] = readDigits();
            if (levels.amount[i] == NONE) {
                return false;
            }
            levels.unit[i] = indexIn(UNIT_SIGNS, ahead(0));
            if (levels.unit[i] == NONE) {
                return wrongAt(next);
            }
            next++;
            return true;
        }

        /** 1 to 4 digits, not 0 first; NONE, and WRONG, if there are none such. */
        private int readDigits() {
            int value = 0;
            for (int k = 0; k < MOST_DIGITS && isDigit(ahead(0)); k++) {
                int digit = ahead(0) - '0';
                if (k == 0 && digit == 0) {
                    break;
                }
                value = value * 10 + digit;
                next++;
            }
            if (value == 0) {
                wrong = next;
                return NONE;
            }
            return value;
        }

        /** Four digits first, what they say only then: a year too short is told at its end. */
        private int readYear(int least) {
            int value = 0;
            for (int k = 0; k < YEAR_DIGITS; k++) {
                int c = ahead(k);
                if (!isDigit(c)) {
                    wrong = next + k;
                    return NONE;
                }
                value = value * 10 + (c - '0');
            }
            if (value < least || value > LATEST_YEAR) {
                wrong = next;
                return NONE;
            }
            next += YEAR_DIGITS;
            return value;
        }

        private boolean expect(int c) {
            if (ahead(0) != c) {
                return wrongAt(next);
            }
            next++;
            return true;
        }

        private boolean wrongAt(int where) {
            wrong = where;
            return false;
        }

        /** The sign so many places on; at the text's end NONE, which fits nowhere. */
        private int ahead(int places) {
            int where = next + places;
            if (where < 0 || where >= length) {
                return NONE;
            }
            return signs[where];
        }

        private static boolean isDigit(int c) {
            return c >= '0' && c <= '9';
        }

        private static boolean isLetter(int c) {
            return c >= 'a' && c <= 'z';
        }
    }

    /** What is told of the levels beside their text, gone when they are read anew. */
    private static final class Notes {
        private final int[] reasons = new int[MOST_LEVELS * RESTRICTION_KINDS];
        private final int[] headings = new int[MOST_LEVELS * HEADINGS_OF_ONE];
        private final int[] undersBefore = new int[MOST_LEVELS * MOVES_TOLD];
        final int[] headingCount = new int[MOST_LEVELS];
        final int[] moveCount = new int[MOST_LEVELS];
        // hidden, not published: what was never touched is PUBLISHED
        final boolean[] hidden = new boolean[MOST_LEVELS];

        void forget() {
            Arrays.fill(reasons, 0);
            Arrays.fill(headingCount, 0);
            Arrays.fill(moveCount, 0);
            for (int i = 0; i < MOST_LEVELS; i++) {
                hidden[i] = false;
            }
        }

        void setReason(int i, int kind, int reason) {
            reasons[i * RESTRICTION_KINDS + kind] = reason;
        }

        int reasonOf(int i, int kind) {
            return reasons[i * RESTRICTION_KINDS + kind];
        }

        boolean hasHeading(int i, int heading) {
            for (int k = 0; k < headingCount[i]; k++) {
                if (headings[i * HEADINGS_OF_ONE + k] == heading) {
                    return true;
                }
            }
            return false;
        }

        void addHeading(int i, int heading) {
            if (headingCount[i] < HEADINGS_OF_ONE) {
                headings[i * HEADINGS_OF_ONE + headingCount[i]] = heading;
                headingCount[i]++;
            }
        }

        /** Moves behind the fifth are not kept. */
        void addMove(int i, int under) {
            if (moveCount[i] < MOVES_TOLD) {
                undersBefore[i * MOVES_TOLD + moveCount[i]] = under;
                moveCount[i]++;
            }
        }

        int underBefore(int i, int j) {
            return undersBefore[i * MOVES_TOLD + j];
        }
    }

    /** THE EXTENTS of all levels in all units. */
    private static final class Sums {
        private final int[] whole = new int[UNITS * MOST_LEVELS];
        private final int[] below = new int[UNITS * MOST_LEVELS];

        /** From the deepest up, so that all under a level are weighed before it. */
        void weigh(Levels levels) {
            Arrays.fill(below, 0);
            for (int depth = MOST_DEPTH; depth >= 0; depth--) {
                for (int i = 0; i < levels.count; i++) {
                    if (levels.depth[i] == depth) {
                        weighOne(levels, i);
                    }
                }
            }
        }

        private void weighOne(Levels levels, int i) {
            int above = levels.above[i];
            for (int unit = 0; unit < UNITS; unit++) {
                int from = unit * MOST_LEVELS;
                whole[from + i] = levels.unit[i] == unit ? levels.amount[i] : below[from + i];
                if (levels.has(above)) {
                    below[from + above] += whole[from + i];
                }
            }
        }

        int wholeOf(int i, int unit) {
            return whole[unit * MOST_LEVELS + i];
        }

        /** Whether a level's own extent is told and is not what those under it, if any, sum up to. */
        boolean contradicts(Levels levels, int i) {
            int unit = levels.unit[i];
            if (unit == NONE) {
                return false;
            }
            int sum = below[unit * MOST_LEVELS + i];
            return sum != 0 && sum != levels.amount[i];
        }
    }

    /** In what another text of the units differs from the levels here. */
    private static final class Asks {
        int count = 0;
        boolean outdated = false;
        final int[] levelHere = new int[MOST_LEVELS];
        final int[] levelThere = new int[MOST_LEVELS];
        final int[] bits = new int[MOST_LEVELS];
        final boolean[] taken = new boolean[MOST_LEVELS];

        boolean has(int i) {
            return i >= 0 && i < count;
        }

        void gather(Levels here, Levels there) {
            count = 0;
            outdated = false;
            for (int j = 0; j < there.count; j++) {
                int i = here.firstWithPathOf(there, j);
                int difference = i == NONE ? 0 : here.differenceBits(i, there, j);
                if (difference != 0) {
                    add(i, j, difference);
                }
            }
        }

        private void add(int i, int j, int difference) {
            if (count >= MOST_LEVELS) {
                return;
            }
            levelHere[count] = i;
            levelThere[count] = j;
            bits[count] = difference;
            taken[count] = false;
            count++;
        }
    }

    /** What was printed latest. */
    private static final class Page {
        final int[] signs = new int[MOST_LEVELS * LONGEST_LINE];
        int length = 0;

        void write(Levels levels, Notes notes) {
            length = 0;
            writeFrom(this, levels, notes, 0, 0);
        }

        /** A level, if it is PUBLISHED, and behind it those under it; the depth ends the recursion. */
        private static void writeFrom(Page page, Levels levels, Notes notes, int i, int depth) {
            if (depth > MOST_DEPTH || !levels.has(i) || notes.hidden[i]) {
                return;
            }
            page.writeLine(levels, i);
            int last = levels.nextUnder(i, NONE);
            for (int n = 0; n < levels.count && last != NONE; n++) {
                writeFrom(page, levels, notes, last, depth + 1);
                last = levels.nextUnder(i, last);
            }
        }

        private void writeLine(Levels levels, int i) {
            for (int k = 0; k < levels.depth[i]; k++) {
                put('+');
            }
            putOneOf(KIND_SIGNS, levels.kind[i]);
            putNumber(levels.number[i]);
            put(SPACE);
            for (int k = 0; k < levels.titleLength[i]; k++) {
                put(levels.titleSign(i, k));
            }
            if (levels.firstYear[i] != NONE) {
                writeDate(levels, i);
            }
            if (levels.unit[i] != NONE) {
                put(SPACE);
                put('e');
                putNumber(levels.amount[i]);
                putOneOf(UNIT_SIGNS, levels.unit[i]);
            }
            put(LINE_END);
        }

        private void writeDate(Levels levels, int i) {
            put(SPACE);
            put('d');
            putNumber(levels.firstYear[i]);
            // a span of one year has one form, however it was told
            if (levels.lastYear[i] != levels.firstYear[i]) {
                put('-');
                putNumber(levels.lastYear[i]);
            }
            if (levels.doubt[i] == 1) {
                put('?');
            }
        }

        private void putNumber(int value) {
            for (int part = 1000; part >= 1; part /= 10) {
                if (value >= part) {
                    put('0' + value / part % 10);
                }
            }
        }

        private void putOneOf(char[] row, int k) {
            if (k >= 0 && k < row.length) {
                put(row[k]);
            }
        }

        private void put(int c) {
            if (length < signs.length) {
                signs[length] = c;
                length++;
            }
        }
    }
}
