/** "Terms": what holds of every call that throws. Book looks behind each of them whether nothing has changed. */
public final class TermRefusedTest {
    private static final int[] NO_ENTRY = {Integer.MIN_VALUE, -2, -1, 80, 81, Integer.MAX_VALUE};

    public static void main(String[] args) {
        Checks c = new Checks();
        noSuchEntry(c);
        entry(c);
        sign(c);
        page(c);
        range(c);
        see(c);
        style(c);
        changesNothing(c);
        c.end();
    }

    /** Three entries of three levels, with something of everything, and an out. */
    private static Book some() {
        Book x = Checks.tops("ab");
        int one = Checks.under(x, 0, 1, "c");
        Checks.under(x, one, 2, "d");
        x.page(0, 1, 5);
        x.range(1, 7, false);
        x.see(1, 2);
        x.rule(0, false);
        Checks.style(x, "%g|%w%p%s|%w%p%s|%w%p%s");
        x.print();
        return x;
    }

    /** 80 entries and a style of 80 signs; the last entry has 20 signs, 19 pages, a range that is ended, and 5 to see. */
    private static Book full() {
        Book x = Checks.tops("first");
        for (int k = 1; k < 79; k++) {
            x.entry(1, 0);
        }
        Checks.under(x, 78, 2, "abcdefghijklmnopqrst");
        Checks.range(x, 79, 100, 102);
        for (int k = 1; k < 20; k++) {
            x.page(79, k % 3, 2 * k);
        }
        Checks.see(x, 79, 0, 1, 2, 3, 4);
        Checks.style(x, "%g|%w|%w|" + "x".repeat(65) + "%w%p%s");
        x.print();
        return x;
    }

    private static void noSuchEntry(Checks c) {
        c.words("NoSuchElementException: there is no such entry.");
        Book none = new Book();
        Book x = some();
        Book y = full();
        for (Book book : new Book[] {none, x, y}) {
            for (int e : NO_ENTRY) {
                noneOf(c, book, e);
            }
        }
        noneOf(c, none, 0);
        noneOf(c, x, 3);
        noneOf(c, x, 79);
        c.due("the first one", y.compare(0, 0), 0);
        c.due("the last one", y.compare(79, 79), 0);
    }

    private static void noneOf(Checks c, Book x, int e) {
        if (e != -1) {
            c.thrown("entry under " + e, Checks.NO_ELEMENT, () -> x.entry(1, e));
        }
        c.thrown("sign of " + e, Checks.NO_ELEMENT, () -> x.sign(e, 'a'));
        c.thrown("page of " + e, Checks.NO_ELEMENT, () -> x.page(e, 1, 1));
        c.thrown("range of " + e, Checks.NO_ELEMENT, () -> x.range(e, 1, false));
        c.thrown("end of a range of " + e, Checks.NO_ELEMENT, () -> x.range(e, 1, true));
        c.thrown("to see at " + e, Checks.NO_ELEMENT, () -> x.see(e, 0));
        c.thrown("to see " + e, Checks.NO_ELEMENT, () -> x.see(0, e));
        c.thrown("to see itself, " + e, Checks.NO_ELEMENT, () -> x.see(e, e));
        c.thrown("compare with " + e, Checks.NO_ELEMENT, () -> x.compare(0, e));
        c.thrown("compare " + e, Checks.NO_ELEMENT, () -> x.compare(e, 0));
        c.thrown("compare it with itself, " + e, Checks.NO_ELEMENT, () -> x.compare(e, e));
    }

    private static void first(Checks c) {
        c.words("where several exceptions that a call names fit, it is the one that it names first.");
    }

    private static void entry(Checks c) {
        first(c);
        Book x = some();
        c.thrown("no entry and a wrong level", Checks.NO_ELEMENT, () -> x.entry(3, 3));
        c.thrown("no entry and level -1", Checks.NO_ELEMENT, () -> x.entry(-1, -2));
        c.thrown("no entry at level 0", Checks.NO_ELEMENT, () -> x.entry(0, 3));
        Book y = full();
        c.thrown("full, no entry and a wrong level", Checks.NO_ELEMENT, () -> y.entry(3, 80));
        c.thrown("full, no entry", Checks.NO_ELEMENT, () -> y.entry(1, 80));
        c.thrown("full, a wrong level", Checks.ARGUMENT, () -> y.entry(3, -1));
        c.thrown("full, level 0 under one", Checks.ARGUMENT, () -> y.entry(0, 0));
        c.thrown("full, level 1 under none", Checks.ARGUMENT, () -> y.entry(1, -1));
        c.thrown("full, level 2 under level 0", Checks.ARGUMENT, () -> y.entry(2, 0));
        c.thrown("full alone", Checks.UNSUPPORTED, () -> y.entry(2, 78));
    }

    private static void sign(Checks c) {
        first(c);
        Book x = some();
        c.thrown("no entry and sign -1", Checks.NO_ELEMENT, () -> x.sign(3, -1));
        c.thrown("no entry and sign 256", Checks.NO_ELEMENT, () -> x.sign(-1, 256));
        Book y = full();
        c.thrown("full words and sign -1", Checks.ARGUMENT, () -> y.sign(79, -1));
        c.thrown("full words and sign 256", Checks.ARGUMENT, () -> y.sign(79, 256));
        c.thrown("full words alone", Checks.UNSUPPORTED, () -> y.sign(79, 255));
    }

    private static void page(Checks c) {
        first(c);
        Book x = some();
        c.thrown("no entry and kind 3", Checks.NO_ELEMENT, () -> x.page(3, 3, 1));
        c.thrown("no entry and number 0", Checks.NO_ELEMENT, () -> x.page(-1, 1, 0));
        Book y = full();
        c.thrown("full pages and kind -1", Checks.ARGUMENT, () -> y.page(79, -1, 1));
        c.thrown("full pages and kind 3", Checks.ARGUMENT, () -> y.page(79, 3, 1));
        c.thrown("full pages and number 0", Checks.ARGUMENT, () -> y.page(79, 1, 0));
        c.thrown("full pages and number 4000", Checks.ARGUMENT, () -> y.page(79, 0, 4000));
        c.thrown("full pages and number 100000", Checks.ARGUMENT, () -> y.page(79, 1, 100000));
        c.thrown("full pages and number 703", Checks.ARGUMENT, () -> y.page(79, 2, 703));
        c.thrown("full pages alone", Checks.UNSUPPORTED, () -> y.page(79, 2, 702));
    }

    private static void range(Checks c) {
        first(c);
        Book x = some();
        c.thrown("no entry and number 0", Checks.NO_ELEMENT, () -> x.range(3, 0, false));
        c.thrown("no entry and number 100000 at its end", Checks.NO_ELEMENT, () -> x.range(-1, 100000, true));
        Book y = full();
        c.thrown("full pages and number 0", Checks.ARGUMENT, () -> y.range(79, 0, false));
        c.thrown("full pages and number 100000", Checks.ARGUMENT, () -> y.range(79, 100000, false));
        c.thrown("full pages and number 100000 at its end", Checks.ARGUMENT, () -> y.range(79, 100000, true));
        c.thrown("full pages alone", Checks.UNSUPPORTED, () -> y.range(79, 99999, false));
        c.due("full pages, and none has begun", y.range(79, 99999, true), 0);
    }

    private static void see(Checks c) {
        first(c);
        Book y = full();
        c.thrown("it has 5, and there is no such other", Checks.NO_ELEMENT, () -> y.see(79, 80));
        c.thrown("it has 5, and the other is -1", Checks.NO_ELEMENT, () -> y.see(79, -1));
        c.thrown("it has 5", Checks.UNSUPPORTED, () -> y.see(79, 5));
    }

    private static void style(Checks c) {
        first(c);
        Book y = full();
        c.thrown("full and sign -1", Checks.ARGUMENT, () -> y.style(-1));
        c.thrown("full and sign 128", Checks.ARGUMENT, () -> y.style(128));
        c.thrown("full alone", Checks.UNSUPPORTED, () -> y.style(127));
    }

    /** Also of calls that threw several times, and with other calls between them. */
    private static void changesNothing(Checks c) {
        c.words("A call that throws changes nothing;");
        Book x = some();
        String rows = Checks.rows(x);
        String warnings = Checks.warnings(x);
        String out = Checks.printed(x);
        for (int k = 0; k < 3; k++) {
            c.thrown("entry", Checks.ARGUMENT, () -> x.entry(3, -1));
            c.thrown("sign", Checks.ARGUMENT, () -> x.sign(0, 256));
            c.thrown("page", Checks.ARGUMENT, () -> x.page(0, 3, 1));
            c.thrown("range", Checks.ARGUMENT, () -> x.range(0, 0, false));
            c.thrown("end of a range", Checks.ARGUMENT, () -> x.range(1, 100000, true));
            c.thrown("see", Checks.NO_ELEMENT, () -> x.see(1, 3));
            c.thrown("rule", Checks.ARGUMENT, () -> x.rule(2, true));
            c.thrown("row", Checks.INDEX, () -> x.row(3, 0));
            c.thrown("locator", Checks.INDEX, () -> x.locator(0, 1, 0));
            c.thrown("compare", Checks.NO_ELEMENT, () -> x.compare(0, 3));
            c.thrown("told", Checks.INDEX, () -> x.told(9, 0));
            c.thrown("style", Checks.ARGUMENT, () -> x.style(128));
            c.thrown("at", Checks.ARRAY_INDEX, () -> x.at(-1));
        }
        c.due("rows", Checks.rows(x), rows);
        c.due("warnings", Checks.warnings(x), warnings);
        c.due("print", Checks.printed(x), out);
        c.due("DIGITS is off still", x.rule(0, true), 0);
        c.due("WORDS is on still", x.rule(1, true), 1);
        c.due("the next entry", x.entry(0, -1), 3);
        c.due("the next sign", x.sign(0, 'x'), 3);
        c.due("the next page", x.page(0, 1, 6), 2);
        c.due("the range that has begun", x.range(1, 8, true), 1);
    }
}
