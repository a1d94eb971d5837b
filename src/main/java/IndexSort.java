import java.util.Arrays;
import java.util.NoSuchElementException;

/**
 * An index of a book: entries in three levels with pages, ranges and words to see, sorted, joined,
 * looked through for what is wrong, and printed by a style.
 */
public final class IndexSort {
    private static final int MOST_ENTRIES = 80;
    private static final int MOST_SIGNS = 20;
    private static final int MOST_PAGES = 20;
    private static final int MOST_SEES = 5;
    private static final int MOST_STYLE = 80;
    private static final int MOST_OUT = 6000;
    private static final int LEVELS = 3;

    private static final int ROMAN = 0;
    private static final int NUMBERS = 1;
    private static final int LETTERS = 2;

    /** Kinds lie this far apart on one line of places, so that no row of places reaches from kind to kind. */
    private static final int KIND_STEP = 100000;

    private final Entry[] entries = new Entry[MOST_ENTRIES];
    /** Stands for an entry that there is not, so that no reference is ever null; it is never changed. */
    private final Entry nobody = new Entry(0, -1);
    private int entryCount = 0;

    private boolean digitsRule = true;
    private boolean wordsRule = true;

    /** The entries that are rows, by their words alone; {@link #rows} has them with levels. */
    private final Ints sorted = new Ints(MOST_ENTRIES);
    private final Ints rows = new Ints(MOST_ENTRIES);
    private boolean rowsKnown = false;

    private final Spans gathered = new Spans(MOST_ENTRIES * MOST_PAGES);
    private final Spans locators = new Spans(MOST_ENTRIES * MOST_PAGES);
    /** The row whose locators were found last, -1 when they may have changed since. */
    private int locatorsOf = -1;

    private final Ints seen = new Ints(MOST_ENTRIES);
    private final Warnings warnings = new Warnings();

    private final Ints style = new Ints(MOST_STYLE);
    private Paper out = new Paper();
    /** The next out is written here, so that the old one stays when the new one gets too long. */
    private Paper draft = new Paper();

    public IndexSort() {
    }

    public int entry(int level, int above)
            throws NoSuchElementException, IllegalArgumentException, UnsupportedOperationException {
        if (above != -1 && !isEntry(above)) {
            throw new NoSuchElementException();
        }
        if (level < 0 || level >= LEVELS || !isLevelBefore(above, level)) {
            throw new IllegalArgumentException();
        }
        if (entryCount < 0 || entryCount >= entries.length) {
            throw new UnsupportedOperationException();
        }
        entries[entryCount] = new Entry(level, above);
        entryCount++;
        forgetRows();
        return entryCount - 1;
    }

    public int sign(int entry, int c)
            throws NoSuchElementException, IllegalArgumentException, UnsupportedOperationException {
        needEntry(entry);
        if (c < 0 || c > 255) {
            throw new IllegalArgumentException();
        }
        Entry changed = known(entry);
        if (changed.signs.isFull()) {
            throw new UnsupportedOperationException();
        }
        changed.addSign(c);
        changed.makeKey(digitsRule, wordsRule);
        forgetRows();
        return changed.signs.size();
    }

    public int page(int entry, int kind, int n)
            throws NoSuchElementException, IllegalArgumentException, UnsupportedOperationException {
        needEntry(entry);
        if (n < 1 || n > lastOf(kind)) {
            throw new IllegalArgumentException();
        }
        Spans pages = known(entry).pages;
        if (pages.isFull()) {
            throw new UnsupportedOperationException();
        }
        int place = kind * KIND_STEP + n;
        pages.add(place, place, false);
        locatorsOf = -1;
        return pages.size();
    }

    public int range(int entry, int n, boolean ends)
            throws NoSuchElementException, IllegalArgumentException, UnsupportedOperationException {
        needEntry(entry);
        if (n < 1 || n > lastOf(NUMBERS)) {
            throw new IllegalArgumentException();
        }
        Entry changed = known(entry);
        // One that has begun already keeps the next from beginning, and then no room is asked for.
        if (!ends && changed.openRange < 0 && changed.pages.isFull()) {
            throw new UnsupportedOperationException();
        }
        int place = NUMBERS * KIND_STEP + n;
        boolean done = ends ? changed.endRange(place) : changed.beginRange(place);
        if (done) {
            locatorsOf = -1;
        }
        return done ? 1 : 0;
    }

    public int see(int entry, int other) throws NoSuchElementException, UnsupportedOperationException {
        needEntry(entry);
        needEntry(other);
        Ints sees = known(entry).sees;
        if (sees.isFull()) {
            throw new UnsupportedOperationException();
        }
        if (entry == other || sees.has(other)) {
            return 0;
        }
        sees.add(other);
        return 1;
    }

    public int rule(int which, boolean on) throws IllegalArgumentException {
        if (which < 0 || which > 1) {
            throw new IllegalArgumentException();
        }
        boolean was = which == 0 ? digitsRule : wordsRule;
        if (which == 0) {
            digitsRule = on;
        } else {
            wordsRule = on;
        }
        if (was != on) {
            makeKeys();
            forgetRows();
        }
        return was ? 1 : 0;
    }

    public int run() {
        findRows();
        return rows.size();
    }

    public int row(int i, int what) throws IndexOutOfBoundsException {
        findRows();
        if (i < 0 || i >= rows.size()) {
            throw new IndexOutOfBoundsException();
        }
        int row = rows.get(i);
        switch (what) {
            case 0:
                return row;
            case 1:
                return known(row).level;
            case 2:
                findLocators(row);
                return locators.size();
            case 3:
                findSeen(row);
                return seen.size();
            case 4:
                return groupOf(row);
            default:
                throw new IndexOutOfBoundsException();
        }
    }

    public int locator(int i, int j, int what) throws IndexOutOfBoundsException {
        findRows();
        if (i < 0 || i >= rows.size()) {
            throw new IndexOutOfBoundsException();
        }
        findLocators(rows.get(i));
        if (j < 0 || j >= locators.size() || what < 0 || what > 2) {
            throw new IndexOutOfBoundsException();
        }
        int from = locators.from(j);
        if (what == 0) {
            return from / KIND_STEP;
        }
        return (what == 1 ? from : locators.to(j)) % KIND_STEP;
    }

    public int compare(int a, int b) throws NoSuchElementException {
        needEntry(a);
        needEntry(b);
        return known(a).orderTo(known(b));
    }

    public int told(int i, int what) throws IndexOutOfBoundsException {
        findRows();
        countByRows();
        warnings.lookFor(i);
        for (int e = 0; e < entryCount; e++) {
            warnOf(e);
        }
        if (i == -1) {
            return warnings.count;
        }
        if (i < 0 || i >= warnings.count || what < 0 || what > 2) {
            throw new IndexOutOfBoundsException();
        }
        if (what == 0) {
            return warnings.kind;
        }
        return what == 1 ? warnings.entry : warnings.number;
    }

    public int style(int c) throws IllegalArgumentException, UnsupportedOperationException {
        if (c < 0 || c > 127) {
            throw new IllegalArgumentException();
        }
        if (c == 0) {
            style.clear();
            return 0;
        }
        if (style.isFull()) {
            throw new UnsupportedOperationException();
        }
        style.add(c);
        return style.size();
    }

    public int print() throws UnsupportedOperationException {
        int fault = firstFault();
        if (fault >= 0) {
            return -1 - fault;
        }
        findRows();
        draft.clear();
        int groupBefore = -1;
        for (int k = 0; k < rows.size() && !draft.tooLong; k++) {
            int row = rows.get(k);
            int level = known(row).level;
            int group = groupOf(row);
            findLocators(row);
            findSeen(row);
            if (level == 0 && group != groupBefore) {
                writePart(0, row, group);
                groupBefore = group;
            }
            writePart(1 + level, row, group);
        }
        if (draft.tooLong) {
            throw new UnsupportedOperationException();
        }
        Paper old = out;
        out = draft;
        draft = old;
        return out.size();
    }

    public int at(int i) throws ArrayIndexOutOfBoundsException {
        if (i < 0 || i >= out.size()) {
            throw new ArrayIndexOutOfBoundsException();
        }
        return out.get(i);
    }

    // ---- entries

    private boolean isEntry(int e) {
        return e >= 0 && e < entryCount;
    }

    private void needEntry(int e) {
        if (!isEntry(e)) {
            throw new NoSuchElementException();
        }
    }

    private Entry known(int e) {
        Entry found = isEntry(e) && e < entries.length ? entries[e] : null;
        return found == null ? nobody : found;
    }

    private boolean isLevelBefore(int above, int level) {
        return level == 0 ? above == -1 : above != -1 && known(above).level == level - 1;
    }

    /** The greatest number of a kind; 0, so that none fits, of what is no kind. */
    private static int lastOf(int kind) {
        switch (kind) {
            case ROMAN:
                return 3999;
            case NUMBERS:
                return 99999;
            case LETTERS:
                return 702;
            default:
                return 0;
        }
    }

    private void makeKeys() {
        for (int e = 0; e < entryCount; e++) {
            known(e).makeKey(digitsRule, wordsRule);
        }
    }

    // ---- rows

    private void forgetRows() {
        rowsKnown = false;
        locatorsOf = -1;
    }

    private void findRows() {
        if (rowsKnown) {
            return;
        }
        // Upwards: what an entry is under has a lesser number, and is joined before it.
        for (int e = 0; e < entryCount; e++) {
            known(e).first = firstSame(e);
        }
        sortFirsts();
        rows.clear();
        addRowsUnder(-1, 0);
        rowsKnown = true;
    }

    private int firstSame(int e) {
        for (int earlier = 0; earlier < e; earlier++) {
            if (isSame(known(e), known(earlier))) {
                return earlier;
            }
        }
        return e;
    }

    private boolean isSame(Entry one, Entry other) {
        return one.level == other.level
                && firstOf(one.above) == firstOf(other.above)
                && one.ranks.orderTo(other.ranks) == 0;
    }

    private int firstOf(int e) {
        return isEntry(e) ? known(e).first : -1;
    }

    private void sortFirsts() {
        sorted.clear();
        for (int e = 0; e < entryCount; e++) {
            if (firstOf(e) != e) {
                continue;
            }
            sorted.add(e);
            for (int k = sorted.size() - 1; k > 0 && known(e).orderTo(known(sorted.get(k - 1))) < 0; k--) {
                sorted.swap(k, k - 1);
            }
        }
    }

    private void addRowsUnder(int above, int level) {
        if (level >= LEVELS) {
            return;
        }
        for (int k = 0; k < sorted.size(); k++) {
            int e = sorted.get(k);
            if (known(e).level == level && firstOf(known(e).above) == above) {
                rows.add(e);
                addRowsUnder(e, level + 1);
            }
        }
    }

    private int groupOf(int row) {
        int top = row;
        for (int k = 1; k < LEVELS && known(top).level > 0; k++) {
            top = firstOf(known(top).above);
        }
        return known(top).group();
    }

    // ---- locators and rows to see

    private void findLocators(int row) {
        if (locatorsOf == row) {
            return;
        }
        gathered.clear();
        for (int e = 0; e < entryCount; e++) {
            if (firstOf(e) == row) {
                gathered.addAllInOrder(known(e).pages);
            }
        }
        locators.clear();
        joinGathered();
        locatorsOf = row;
    }

    private void joinGathered() {
        int from = 0;
        int to = 0;
        boolean told = false;
        for (int k = 0; k < gathered.size(); k++) {
            if (k > 0 && gathered.from(k) <= to + 1) {
                to = Math.max(to, gathered.to(k));
                told = told || gathered.isTold(k);
            } else {
                addLocators(from, to, told);
                from = gathered.from(k);
                to = gathered.to(k);
                told = gathered.isTold(k);
            }
        }
        addLocators(from, to, told);
    }

    /** Of the places from .. to, which stand one behind the other; no place is 0, so that from 0 tells of none. */
    private void addLocators(int from, int to, boolean told) {
        if (from == 0) {
            return;
        }
        if (told || to - from >= 2) {
            locators.add(from, to, told);
            return;
        }
        locators.add(from, from, false);
        if (to != from) {
            locators.add(to, to, false);
        }
    }

    private void findSeen(int row) {
        seen.clear();
        for (int e = 0; e < entryCount; e++) {
            if (firstOf(e) == row) {
                addSeenOf(known(e).sees);
            }
        }
    }

    private void addSeenOf(Ints sees) {
        for (int k = 0; k < sees.size(); k++) {
            int row = firstOf(sees.get(k));
            if (!seen.has(row)) {
                seen.add(row);
            }
        }
    }

    // ---- warnings

    private void countByRows() {
        for (int e = 0; e < entryCount; e++) {
            known(e).clearCounts();
        }
        for (int e = 0; e < entryCount; e++) {
            Entry entry = known(e);
            Entry row = known(entry.first);
            row.pagesOfRow += entry.pages.size();
            row.seesOfRow += entry.sees.size();
            if (isEntry(entry.above)) {
                known(firstOf(entry.above)).underRow++;
            }
        }
    }

    private void warnOf(int e) {
        Entry entry = known(e);
        if (entry.openRange >= 0) {
            warnings.tell(1, e, entry.pages.from(entry.openRange) % KIND_STEP);
        }
        for (int k = 0; k < entry.sees.size(); k++) {
            int other = entry.sees.get(k);
            if (known(firstOf(other)).pagesOfRow == 0) {
                warnings.tell(2, e, other);
            }
        }
        if (entry.first == e && entry.isEmptyRow()) {
            warnings.tell(3, e, 0);
        }
    }

    // ---- style and out

    /** The place of the style's first fault, -1 when it has none. */
    private int firstFault() {
        int bars = 0;
        for (int k = 0; k < style.size(); k++) {
            int c = style.get(k);
            if (c == '%') {
                if (!isMark(style.get(k + 1))) {
                    return k;
                }
                k++;
            } else if (c == '|') {
                bars++;
                if (bars > LEVELS) {
                    return k;
                }
            }
        }
        return bars < LEVELS ? style.size() : -1;
    }

    private static boolean isMark(int c) {
        return c == 'w' || c == 'p' || c == 's' || c == 'g' || c == 'n' || c == '%';
    }

    /** A part of the style for a row whose locators and rows to see have been found; part 0 is that of groups. */
    private void writePart(int part, int row, int group) {
        int bars = 0;
        for (int k = 0; k < style.size(); k++) {
            int c = style.get(k);
            if (c == '|') {
                bars++;
            } else if (c == '%') {
                k++;
                if (bars == part) {
                    writeMark(style.get(k), part > 0, row, group);
                }
            } else if (bars == part) {
                draft.put(c);
            }
        }
    }

    private void writeMark(int mark, boolean ofRow, int row, int group) {
        if (mark == '%') {
            draft.put('%');
        } else if (mark == 'n') {
            draft.put(10);
        } else if (mark == 'g') {
            draft.put(group < 'a' ? '0' + group : group);
        } else if (mark == 'w' && ofRow) {
            draft.putAll(known(row).signs);
        } else if (mark == 'p' && ofRow) {
            writeLocators();
        } else if (mark == 's' && ofRow) {
            writeSeen();
        }
    }

    private void writeLocators() {
        for (int j = 0; j < locators.size(); j++) {
            if (j > 0) {
                draft.putBetween(',');
            }
            draft.putPage(locators.from(j));
            if (locators.to(j) != locators.from(j)) {
                draft.put('-');
                draft.putPage(locators.to(j));
            }
        }
    }

    private void writeSeen() {
        for (int k = 0; k < seen.size(); k++) {
            if (k > 0) {
                draft.putBetween(';');
            }
            draft.putAll(known(seen.get(k)).signs);
        }
    }

    /** A row of numbers that grows to its limit; it looks at every index, and outside there are zeros. */
    private static final class Ints {
        private final int limit;
        private int[] room = new int[0];
        private int size = 0;

        Ints(int limit) {
            this.limit = limit;
        }

        int size() {
            return size;
        }

        boolean isFull() {
            return size >= limit;
        }

        void clear() {
            size = 0;
        }

        int get(int i) {
            return i >= 0 && i < size && i < room.length ? room[i] : 0;
        }

        void set(int i, int value) {
            if (i >= 0 && i < size && i < room.length) {
                room[i] = value;
            }
        }

        void swap(int i, int j) {
            int old = get(i);
            set(i, get(j));
            set(j, old);
        }

        void add(int value) {
            if (size < 0 || size >= limit) {
                return;
            }
            if (size >= room.length) {
                // Grown by doubling, since most rows stay far below their limit.
                room = Arrays.copyOf(room, Math.min(limit, 2 * size + 4));
            }
            if (size < room.length) {
                room[size] = value;
                size++;
            }
        }

        boolean has(int value) {
            for (int k = 0; k < size; k++) {
                if (get(k) == value) {
                    return true;
                }
            }
            return false;
        }

        /** -1, 0, 1: by the first place at which they differ; where one ends it is first. */
        int orderTo(Ints other) {
            for (int k = 0; k < size && k < other.size; k++) {
                int mine = get(k);
                int its = other.get(k);
                if (mine != its) {
                    return mine < its ? -1 : 1;
                }
            }
            return size == other.size ? 0 : size < other.size ? -1 : 1;
        }
    }

    /** Pages and ranges as places from .. to; some of them were told as a range. */
    private static final class Spans {
        private final Ints froms;
        private final Ints tos;
        private final Ints tolds;

        Spans(int limit) {
            froms = new Ints(limit);
            tos = new Ints(limit);
            tolds = new Ints(limit);
        }

        int size() {
            return froms.size();
        }

        boolean isFull() {
            return froms.isFull();
        }

        void clear() {
            froms.clear();
            tos.clear();
            tolds.clear();
        }

        int from(int i) {
            return froms.get(i);
        }

        int to(int i) {
            return tos.get(i);
        }

        boolean isTold(int i) {
            return tolds.get(i) == 1;
        }

        void add(int from, int to, boolean told) {
            froms.add(from);
            tos.add(to);
            tolds.add(told ? 1 : 0);
        }

        void endAt(int i, int to) {
            tos.set(i, to);
            tolds.set(i, 1);
        }

        void addAllInOrder(Spans others) {
            for (int k = 0; k < others.size(); k++) {
                add(others.from(k), others.to(k), others.isTold(k));
                sinkLast();
            }
        }

        private void sinkLast() {
            for (int k = size() - 1; k > 0 && from(k) < from(k - 1); k--) {
                froms.swap(k, k - 1);
                tos.swap(k, k - 1);
                tolds.swap(k, k - 1);
            }
        }
    }

    /** An entry with what was told of it, and with what it counts for as a row. */
    private static final class Entry {
        /**
         * A key is written in numbers so that keys stand in the order of these numbers: a letter is its small
         * letter's, a break 1, a number 2 and how many digits it has without zeros before it, then those digits.
         */
        private static final int BREAK = 1;
        private static final int NUMBER = 2;

        private final int level;
        private final int above;
        private final Ints signs = new Ints(MOST_SIGNS);
        /** One for each sign, in whose order words of equal keys stand. */
        private final Ints ranks = new Ints(MOST_SIGNS);
        private final Ints key = new Ints(2 * MOST_SIGNS);
        private final Spans pages = new Spans(MOST_PAGES);
        private final Ints sees = new Ints(MOST_SEES);
        /** Which of the pages is the begin of a range that is not ended, -1 for none. */
        private int openRange = -1;
        /** The first entry that this one is the same as, itself where there is no earlier one. */
        private int first = -1;
        private int pagesOfRow = 0;
        private int seesOfRow = 0;
        private int underRow = 0;

        Entry(int level, int above) {
            this.level = level;
            this.above = above;
        }

        void addSign(int sign) {
            signs.add(sign);
            ranks.add(rankOf(sign));
        }

        boolean beginRange(int place) {
            if (openRange >= 0) {
                return false;
            }
            openRange = pages.size();
            pages.add(place, place, false);
            return true;
        }

        boolean endRange(int place) {
            if (openRange < 0 || place < pages.from(openRange)) {
                return false;
            }
            pages.endAt(openRange, place);
            openRange = -1;
            return true;
        }

        void clearCounts() {
            pagesOfRow = 0;
            seesOfRow = 0;
            underRow = 0;
        }

        boolean isEmptyRow() {
            return pagesOfRow == 0 && seesOfRow == 0 && underRow == 0;
        }

        void makeKey(boolean digitsRule, boolean wordsRule) {
            key.clear();
            boolean breakDue = false;
            for (int k = 0; k < signs.size(); k++) {
                int c = signs.get(k);
                if (!isLetter(c) && !isDigit(c)) {
                    // Only what follows makes it a break: there is none at the ends.
                    breakDue = wordsRule && key.size() > 0;
                    continue;
                }
                if (breakDue) {
                    key.add(BREAK);
                    breakDue = false;
                }
                if (isLetter(c)) {
                    key.add(smallOf(c % 128));
                } else if (!digitsRule) {
                    addNumber(k, k + 1);
                } else if (!isDigit(signs.get(k - 1))) {
                    addNumber(k, digitsEnd(k));
                }
            }
        }

        private void addNumber(int start, int end) {
            int digits = start;
            while (digits < end && signs.get(digits) == '0') {
                digits++;
            }
            key.add(NUMBER + end - digits);
            for (int k = digits; k < end; k++) {
                key.add(signs.get(k));
            }
        }

        private int digitsEnd(int start) {
            int end = start;
            while (end < signs.size() && isDigit(signs.get(end))) {
                end++;
            }
            return end;
        }

        int group() {
            if (key.size() == 0) {
                return 0;
            }
            return key.get(0) < 'a' ? 1 : key.get(0);
        }

        int orderTo(Entry other) {
            int byKeys = key.orderTo(other.key);
            return byKeys != 0 ? byKeys : ranks.orderTo(other.ranks);
        }

        /** Ranks of signs differ where the signs do: by the small letter, then the great one, then the mark. */
        private static int rankOf(int sign) {
            int plain = sign % 128;
            int small = smallOf(plain);
            return 4 * small + (small != plain ? 2 : 0) + (sign != plain ? 1 : 0);
        }

        private static int smallOf(int plain) {
            return plain >= 'A' && plain <= 'Z' ? plain - 'A' + 'a' : plain;
        }

        private static boolean isLetter(int sign) {
            int small = smallOf(sign % 128);
            return small >= 'a' && small <= 'z';
        }

        private static boolean isDigit(int sign) {
            return sign >= '0' && sign <= '9';
        }
    }

    /** Counts the warnings as they are told, and keeps the one that is looked for. */
    private static final class Warnings {
        private int wanted = -1;
        private int count = 0;
        private int kind = 0;
        private int entry = 0;
        private int number = 0;

        void lookFor(int which) {
            wanted = which;
            count = 0;
        }

        void tell(int itsKind, int itsEntry, int itsNumber) {
            if (count == wanted) {
                kind = itsKind;
                entry = itsEntry;
                number = itsNumber;
            }
            count++;
        }
    }

    /** Bytes being written, up to the most that an out may have. */
    private static final class Paper {
        private byte[] room = new byte[0];
        private int size = 0;
        private boolean tooLong = false;

        int size() {
            return size;
        }

        int get(int i) {
            return i >= 0 && i < size && i < room.length ? room[i] & 255 : 0;
        }

        void clear() {
            size = 0;
            tooLong = false;
            // Made when it is first written on, since many an index is never printed.
            if (room.length < MOST_OUT) {
                room = new byte[MOST_OUT];
            }
        }

        void put(int c) {
            if (size < 0 || size >= room.length) {
                tooLong = true;
                return;
            }
            room[size] = (byte) c;
            size++;
        }

        void putAll(Ints signs) {
            for (int k = 0; k < signs.size(); k++) {
                put(signs.get(k));
            }
        }

        void putBetween(int c) {
            put(c);
            put(' ');
        }

        void putPage(int place) {
            int n = place % KIND_STEP;
            switch (place / KIND_STEP) {
                case ROMAN:
                    putRomanDigit(n / 1000, 'm', 'm', 'm');
                    putRomanDigit(n / 100 % 10, 'c', 'd', 'm');
                    putRomanDigit(n / 10 % 10, 'x', 'l', 'c');
                    putRomanDigit(n % 10, 'i', 'v', 'x');
                    break;
                case NUMBERS:
                    putNumber(n);
                    break;
                default:
                    putLetters(n);
                    break;
            }
        }

        private void putRomanDigit(int digit, int one, int five, int ten) {
            if (digit % 5 == 4) {
                put(one);
                put(digit == 4 ? five : ten);
                return;
            }
            if (digit >= 5) {
                put(five);
            }
            for (int k = 0; k < digit % 5; k++) {
                put(one);
            }
        }

        private void putNumber(int n) {
            for (int power = 10000; power > 0; power /= 10) {
                if (n >= power) {
                    put('0' + n / power % 10);
                }
            }
        }

        private void putLetters(int n) {
            if (n > 26) {
                put('a' + (n - 1) / 26 - 1);
            }
            put('a' + (n - 1) % 26);
        }
    }
}
