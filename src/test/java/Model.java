import java.math.BigInteger;
import java.util.ArrayList;
import java.util.Comparator;
import java.util.LinkedHashSet;
import java.util.List;
import java.util.NoSuchElementException;
import java.util.Set;
import java.util.TreeSet;

/** The document said a second time, slowly and with the Java library: everything anew at each question. */
final class Model {
    private static final int[] LAST = {3999, 99999, 702};

    static final class Range {
        int kind;
        int from;
        int to;
        boolean range;
        boolean ended;
    }

    static final class Item {
        int level;
        Item above;
        int number;
        String words = "";
        List<Range> pages = new ArrayList<>();
        List<Item> sees = new ArrayList<>();

        Range open() {
            for (Range r : pages) {
                if (r.range && !r.ended) {
                    return r;
                }
            }
            return null;
        }
    }

    private final List<Item> items = new ArrayList<>();
    private final boolean[] rules = {true, true};
    private String style = "";
    private String out = "";

    int entry(int level, int above) {
        if (above != -1) {
            item(above);
        }
        boolean fits = level == 0 ? above == -1 : above != -1 && items.get(above).level == level - 1;
        if (level < 0 || level > 2 || !fits) {
            throw new IllegalArgumentException();
        }
        if (items.size() == 80) {
            throw new UnsupportedOperationException();
        }
        Item item = new Item();
        item.level = level;
        item.above = above == -1 ? null : items.get(above);
        item.number = items.size();
        items.add(item);
        return item.number;
    }

    private Item item(int number) {
        if (number < 0 || number >= items.size()) {
            throw new NoSuchElementException();
        }
        return items.get(number);
    }

    private static void need(boolean argument) {
        if (!argument) {
            throw new IllegalArgumentException();
        }
    }

    private static void room(boolean there) {
        if (!there) {
            throw new UnsupportedOperationException();
        }
    }

    int sign(int entry, int c) {
        Item item = item(entry);
        need(c >= 0 && c <= 255);
        room(item.words.length() < 20);
        item.words += (char) c;
        return item.words.length();
    }

    int page(int entry, int kind, int n) {
        Item item = item(entry);
        need(kind >= 0 && kind <= 2 && n >= 1 && n <= LAST[kind]);
        room(item.pages.size() < 20);
        item.pages.add(made(kind, n, false));
        return item.pages.size();
    }

    private static Range made(int kind, int n, boolean range) {
        Range r = new Range();
        r.kind = kind;
        r.from = n;
        r.to = n;
        r.range = range;
        return r;
    }

    int range(int entry, int n, boolean ends) {
        Item item = item(entry);
        need(n >= 1 && n <= LAST[1]);
        Range open = item.open();
        if (ends) {
            if (open == null || n < open.from) {
                return 0;
            }
            open.to = n;
            open.ended = true;
            return 1;
        }
        if (open != null) {
            return 0;
        }
        room(item.pages.size() < 20);
        item.pages.add(made(1, n, true));
        return 1;
    }

    int see(int entry, int other) {
        Item item = item(entry);
        Item seen = item(other);
        room(item.sees.size() < 5);
        if (item == seen || item.sees.contains(seen)) {
            return 0;
        }
        item.sees.add(seen);
        return 1;
    }

    int rule(int which, boolean on) {
        need(which == 0 || which == 1);
        int was = rules[which] ? 1 : 0;
        rules[which] = on;
        return was;
    }

    // ---- order

    private static boolean letter(char c) {
        return Character.isLetter((char) (c & 127)) && (c & 127) < 128;
    }

    private static boolean digit(char c) {
        return "0123456789".indexOf(c) >= 0;
    }

    /** Units as texts: "-" a break, digits a number, else a letter. */
    private List<String> key(String words) {
        StringBuilder text = new StringBuilder();
        for (char c : words.toCharArray()) {
            if (letter(c)) {
                text.append(' ').append(Character.toLowerCase((char) (c & 127))).append(' ');
            } else if (digit(c)) {
                text.append(rules[0] ? "" + c : " " + c + " ");
            } else {
                text.append(" - ");
            }
        }
        List<String> units = new ArrayList<>();
        for (String unit : text.toString().trim().split(" +")) {
            boolean again = !units.isEmpty() && units.get(units.size() - 1).equals("-");
            if (unit.isEmpty() || unit.equals("-") && (!rules[1] || again || units.isEmpty())) {
                continue;
            }
            units.add(unit);
        }
        if (!units.isEmpty() && units.get(units.size() - 1).equals("-")) {
            units.remove(units.size() - 1);
        }
        return units;
    }

    private static int rank(String unit) {
        return unit.equals("-") ? 0 : digit(unit.charAt(0)) ? 1 : 2;
    }

    private static int compareUnits(String a, String b) {
        if (rank(a) != rank(b)) {
            return rank(a) - rank(b);
        }
        return rank(a) == 1 ? new BigInteger(a).compareTo(new BigInteger(b)) : a.compareTo(b);
    }

    private int order(String a, String b) {
        List<String> x = key(a);
        List<String> y = key(b);
        for (int k = 0; k < x.size() && k < y.size(); k++) {
            int by = compareUnits(x.get(k), y.get(k));
            if (by != 0) {
                return Integer.signum(by);
            }
        }
        if (x.size() != y.size()) {
            return x.size() < y.size() ? -1 : 1;
        }
        return orderOfSigns(a, b);
    }

    private static int orderOfSigns(String a, String b) {
        int k = 0;
        while (k < a.length() && k < b.length() && a.charAt(k) == b.charAt(k)) {
            k++;
        }
        if (k == a.length() || k == b.length()) {
            return Integer.compare(a.length(), b.length());
        }
        char x = a.charAt(k);
        char y = b.charAt(k);
        Comparator<Character> by = Comparator.comparingInt((Character c) -> Character.toLowerCase((char) (c & 127)));
        by = by.thenComparing(c -> Character.isUpperCase((char) (c & 127)));
        by = by.thenComparing(c -> c >= 128);
        return Integer.signum(by.compare(x, y));
    }

    int compare(int a, int b) {
        Item one = item(a);
        Item other = item(b);
        return order(one.words, other.words);
    }

    // ---- rows

    private boolean same(Item a, Item b) {
        if (a == b) {
            return true;
        }
        if (a == null || b == null) {
            return false;
        }
        return a.level == b.level && a.words.equals(b.words) && same(a.above, b.above);
    }

    private Item first(Item item) {
        for (Item i : items) {
            if (same(i, item)) {
                return i;
            }
        }
        throw new AssertionError();
    }

    private List<Item> joined(Item row) {
        List<Item> all = new ArrayList<>();
        for (Item i : items) {
            if (first(i) == row) {
                all.add(i);
            }
        }
        return all;
    }

    private void addRows(Item above, int level, List<Item> rows) {
        List<Item> here = new ArrayList<>();
        for (Item i : items) {
            if (i.level == level && first(i) == i && (above == null || first(i.above) == above)) {
                here.add(i);
            }
        }
        here.sort((a, b) -> order(a.words, b.words));
        for (Item i : here) {
            rows.add(i);
            if (level < 2) {
                addRows(i, level + 1, rows);
            }
        }
    }

    private List<Item> rows() {
        List<Item> rows = new ArrayList<>();
        addRows(null, 0, rows);
        return rows;
    }

    private Item rowAt(int i) {
        List<Item> rows = rows();
        if (i < 0 || i >= rows.size()) {
            throw new IndexOutOfBoundsException();
        }
        return rows.get(i);
    }

    int run() {
        return rows().size();
    }

    private int group(Item row) {
        Item top = row;
        while (top.above != null) {
            top = top.above;
        }
        List<String> key = key(top.words);
        if (key.isEmpty()) {
            return 0;
        }
        return rank(key.get(0)) == 1 ? 1 : key.get(0).charAt(0);
    }

    private List<int[]> locators(Item row) {
        List<int[]> found = new ArrayList<>();
        for (int kind = 0; kind < 3; kind++) {
            TreeSet<Integer> numbers = new TreeSet<>();
            Set<Integer> told = new TreeSet<>();
            for (Item i : joined(row)) {
                for (Range r : i.pages) {
                    for (int n = r.from; r.kind == kind && n <= r.to; n++) {
                        numbers.add(n);
                        if (r.range && r.ended) {
                            told.add(n);
                        }
                    }
                }
            }
            while (!numbers.isEmpty()) {
                int from = numbers.first();
                int to = from;
                boolean isTold = false;
                while (numbers.remove(to)) {
                    isTold |= told.contains(to);
                    to++;
                }
                to--;
                if (isTold || to - from >= 2) {
                    found.add(new int[] {kind, from, to});
                } else {
                    for (int n = from; n <= to; n++) {
                        found.add(new int[] {kind, n, n});
                    }
                }
            }
        }
        return found;
    }

    private Set<Item> seen(Item row) {
        Set<Item> seen = new LinkedHashSet<>();
        for (Item i : joined(row)) {
            for (Item other : i.sees) {
                seen.add(first(other));
            }
        }
        return seen;
    }

    int row(int i, int what) {
        Item row = rowAt(i);
        switch (what) {
            case 0:
                return row.number;
            case 1:
                return row.level;
            case 2:
                return locators(row).size();
            case 3:
                return seen(row).size();
            case 4:
                return group(row);
            default:
                throw new IndexOutOfBoundsException();
        }
    }

    int locator(int i, int j, int what) {
        List<int[]> found = locators(rowAt(i));
        if (j < 0 || j >= found.size() || what < 0 || what > 2) {
            throw new IndexOutOfBoundsException();
        }
        return found.get(j)[what];
    }

    // ---- warnings

    private boolean paged(Item row) {
        return joined(row).stream().anyMatch(i -> !i.pages.isEmpty());
    }

    private boolean hasUnder(Item row) {
        return items.stream().anyMatch(i -> i.above != null && first(i.above) == row);
    }

    int told(int i, int what) {
        List<int[]> warnings = new ArrayList<>();
        for (Item item : items) {
            if (item.open() != null) {
                warnings.add(new int[] {1, item.number, item.open().from});
            }
            for (Item other : item.sees) {
                if (!paged(first(other))) {
                    warnings.add(new int[] {2, item.number, other.number});
                }
            }
            if (first(item) == item && !paged(item) && seen(item).isEmpty() && !hasUnder(item)) {
                warnings.add(new int[] {3, item.number, 0});
            }
        }
        if (i == -1) {
            return warnings.size();
        }
        if (i < 0 || i >= warnings.size() || what < 0 || what > 2) {
            throw new IndexOutOfBoundsException();
        }
        return warnings.get(i)[what];
    }

    // ---- out

    int style(int c) {
        need(c >= 0 && c <= 127);
        room(c == 0 || style.length() < 80);
        style = c == 0 ? "" : style + (char) c;
        return style.length();
    }

    /** The four parts, or the place of the first fault. */
    private Object parsed() {
        List<StringBuilder> parts = new ArrayList<>();
        parts.add(new StringBuilder());
        int k = 0;
        while (k < style.length()) {
            char c = style.charAt(k);
            if (c == '|' && parts.size() == 4) {
                return k;
            }
            if (c == '|') {
                parts.add(new StringBuilder());
                k++;
            } else if (c == '%') {
                if (k + 1 == style.length() || "wpsgn%".indexOf(style.charAt(k + 1)) < 0) {
                    return k;
                }
                parts.get(parts.size() - 1).append((char) (1000 + style.charAt(k + 1)));
                k += 2;
            } else {
                parts.get(parts.size() - 1).append(c);
                k++;
            }
        }
        return parts.size() < 4 ? (Object) style.length() : parts;
    }

    private static String roman(int n) {
        String text = "i".repeat(n);
        String[][] steps = {{"iiiii", "v"}, {"vv", "x"}, {"xxxxx", "l"}, {"ll", "c"}, {"ccccc", "d"}, {"dd", "m"},
            {"dcccc", "cm"}, {"cccc", "cd"}, {"lxxxx", "xc"}, {"xxxx", "xl"}, {"viiii", "ix"}, {"iiii", "iv"}};
        for (String[] step : steps) {
            text = text.replace(step[0], step[1]);
        }
        return text;
    }

    private static String page(int kind, int n) {
        if (kind == 0) {
            return roman(n);
        }
        if (kind == 1) {
            return "" + n;
        }
        String text = "";
        for (int left = n; left > 0; left = (left - 1) / 26) {
            text = (char) ('a' + (left - 1) % 26) + text;
        }
        return text;
    }

    private String mark(char mark, Item row, boolean ofGroup) {
        List<String> parts = new ArrayList<>();
        switch (mark) {
            case '%':
                return "%";
            case 'n':
                return "\n";
            case 'g':
                return group(row) < 2 ? "" + group(row) : "" + (char) group(row);
            case 'w':
                return ofGroup ? "" : row.words;
            case 'p':
                for (int[] l : locators(row)) {
                    parts.add(page(l[0], l[1]) + (l[1] == l[2] ? "" : "-" + page(l[0], l[2])));
                }
                return ofGroup ? "" : String.join(", ", parts);
            default:
                for (Item i : seen(row)) {
                    parts.add(i.words);
                }
                return ofGroup ? "" : String.join("; ", parts);
        }
    }

    private String filled(CharSequence part, Item row, boolean ofGroup) {
        StringBuilder text = new StringBuilder();
        for (int k = 0; k < part.length(); k++) {
            char c = part.charAt(k);
            text.append(c >= 1000 ? mark((char) (c - 1000), row, ofGroup) : "" + c);
        }
        return text.toString();
    }

    int print() {
        Object parsed = parsed();
        if (parsed instanceof Integer) {
            return -1 - (Integer) parsed;
        }
        List<?> parts = (List<?>) parsed;
        StringBuilder text = new StringBuilder();
        Item before = null;
        for (Item row : rows()) {
            if (row.level == 0) {
                if (before == null || group(before) != group(row)) {
                    text.append(filled((CharSequence) parts.get(0), row, true));
                }
                before = row;
            }
            text.append(filled((CharSequence) parts.get(1 + row.level), row, false));
        }
        room(text.length() <= 6000);
        out = text.toString();
        return out.length();
    }

    int at(int i) {
        if (i < 0 || i >= out.length()) {
            throw new ArrayIndexOutOfBoundsException();
        }
        return out.charAt(i);
    }
}
