/** Promise 5: range. */
public final class RangeTest {
    public static void main(String[] args) {
        Checks c = new Checks();
        beginsAndEnds(c);
        begunAlready(c);
        noneBegun(c);
        endsBeforeItBegan(c);
        refused(c);
        full(c);
        fullAndBegun(c);
        c.end();
    }

    private static void beginsAndEnds(Checks c) {
        c.words("A range of pages (kind 1) of an entry begins, or ends: 1;");
        Book x = Checks.tops("a", "b");
        c.due("begins at the first page", x.range(0, 1, false), 1);
        c.due("ends at the last one", x.range(0, 99999, true), 1);
        c.due("all numbers", Checks.locators(x, 0), "1:1-99999");
        c.due("begins at the last page", x.range(1, 99999, false), 1);
        c.due("ends there", x.range(1, 99999, true), 1);
        c.due("of one page", Checks.locators(x, 1), "1:99999-99999");
        c.due("the next one begins", x.range(1, 1, false), 1);
        c.due("and ends", x.range(1, 2, true), 1);
        c.due("both of them", Checks.locators(x, 1), "1:1-2 1:99999-99999");
        c.due("they count as two", x.page(1, 1, 5), 3);
        Book y = Checks.tops("a", "a");
        c.due("one begins", y.range(0, 4, false), 1);
        c.due("one of the same row too", y.range(1, 14, false), 1);
        c.due("each ends", y.range(0, 5, true), 1);
        c.due("by itself", y.range(1, 15, true), 1);
        c.due("in one row", Checks.locators(y, 0), "1:4-5 1:14-15");
    }

    private static void begunAlready(Checks c) {
        c.words("0, and it does not, when one has begun already, or none, or it would end before it began.");
        Book x = Checks.tops("a", "b");
        x.range(0, 5, false);
        c.due("another one", x.range(0, 6, false), 0);
        c.due("the same one", x.range(0, 5, false), 0);
        c.due("an earlier one", x.range(0, 1, false), 0);
        c.due("its begin is the first one's", Checks.locators(x, 0), "1:5-5");
        c.due("and so is the warning", Checks.warnings(x), "1:0:5 3:1:0");
        c.due("it counts once", x.page(0, 1, 5), 2);
        c.due("another entry has not begun", x.range(1, 6, false), 1);
        c.due("it ends as it began", x.range(0, 7, true), 1);
        c.due("from its begin", Checks.locators(x, 0), "1:5-7");
        c.due("then another one begins", x.range(0, 6, false), 1);
    }

    private static void noneBegun(Checks c) {
        c.words("0, and it does not, when one has begun already, or none, or it would end before it began.");
        Book x = Checks.tops("a", "a");
        c.due("none", x.range(0, 5, true), 0);
        x.page(0, 1, 4);
        c.due("a page is none", x.range(0, 5, true), 0);
        c.due("nothing has come of it", Checks.locators(x, 0), "1:4-4");
        x.range(1, 3, false);
        c.due("another entry's is none, of the same row", x.range(0, 5, true), 0);
        x.range(1, 3, true);
        c.due("one that is ended is none", x.range(1, 5, true), 0);
        c.due("its end stays", Checks.locators(x, 0), "1:3-4");
    }

    private static void endsBeforeItBegan(Checks c) {
        c.words("0, and it does not, when one has begun already, or none, or it would end before it began.");
        Book x = Checks.tops("a");
        x.range(0, 50, false);
        c.due("long before", x.range(0, 1, true), 0);
        c.due("one before", x.range(0, 49, true), 0);
        c.due("it has not ended", Checks.warnings(x), "1:0:50");
        c.due("so that no other one begins", x.range(0, 60, false), 0);
        c.due("where it began", x.range(0, 50, true), 1);
        c.due("it has ended", Checks.warnings(x), "");
        x.range(0, 99999, false);
        c.due("one before the last page", x.range(0, 99998, true), 0);
        c.due("the last page", x.range(0, 99999, true), 1);
        x.range(0, 1, false);
        c.due("there is nothing before the first page", x.range(0, 1, true), 1);
        c.due("all of them", Checks.locators(x, 0), "1:1-1 1:50-50 1:99999-99999");
    }

    private static void refused(Checks c) {
        c.words("NoSuchElementException; IllegalArgumentException (n); UnsupportedOperationException when it begins, and the entry has 20.");
        Book x = new Book();
        for (boolean ends : new boolean[] {false, true}) {
            c.thrown("no entry", Checks.NO_ELEMENT, () -> x.range(0, 1, ends));
            c.thrown("no entry and a wrong number", Checks.NO_ELEMENT, () -> x.range(0, 0, ends));
        }
        x.entry(0, -1);
        for (int begun = 0; begun < 2; begun++) {
            for (boolean ends : new boolean[] {false, true}) {
                c.thrown("entry -1", Checks.NO_ELEMENT, () -> x.range(-1, 1, ends));
                c.thrown("entry 1", Checks.NO_ELEMENT, () -> x.range(1, 1, ends));
                for (int n : new int[] {Integer.MIN_VALUE, -1, 0, 100000, 100001, Integer.MAX_VALUE}) {
                    c.thrown("number " + n, Checks.ARGUMENT, () -> x.range(0, n, ends));
                }
            }
            x.range(0, 3, false);
        }
        c.due("what has begun is the one that did not throw", Checks.locators(x, 0), "1:3-3");
    }

    private static void full(Checks c) {
        c.words("NoSuchElementException; IllegalArgumentException (n); UnsupportedOperationException when it begins, and the entry has 20.");
        Book x = new Book();
        x.entry(0, -1);
        for (int k = 1; k <= 19; k++) {
            x.page(0, 1, 2 * k);
        }
        c.due("the 20th is a range", x.range(0, 100, false), 1);
        c.due("a full entry's range ends", x.range(0, 101, true), 1);
        c.thrown("the 21st", Checks.UNSUPPORTED, () -> x.range(0, 200, false));
        c.thrown("number 0 at full pages", Checks.ARGUMENT, () -> x.range(0, 0, false));
        c.thrown("number 100000 at full pages", Checks.ARGUMENT, () -> x.range(0, 100000, false));
        c.due("ends, and none has begun, at full pages", x.range(0, 200, true), 0);
        c.due("20 locators", x.row(0, 2), 20);
        Book y = new Book();
        y.entry(0, -1);
        for (int k = 1; k <= 20; k++) {
            Checks.range(y, 0, 10 * k, 10 * k + 1);
        }
        c.due("20 ranges", y.row(0, 2), 20);
        c.thrown("the 21st range", Checks.UNSUPPORTED, () -> y.range(0, 500, false));
        c.thrown("a page behind 20 ranges", Checks.UNSUPPORTED, () -> y.page(0, 1, 500));
    }

    /** It does not begin when one has begun already, so that it asks for no room then. */
    private static void fullAndBegun(Checks c) {
        c.words("NoSuchElementException; IllegalArgumentException (n); UnsupportedOperationException when it begins, and the entry has 20.");
        for (int before = 0; before < 20; before += 19) {
            Book x = new Book();
            x.entry(0, -1);
            for (int k = 0; k < before; k++) {
                x.page(0, 1, 2 * k + 1);
            }
            x.range(0, 100, false);
            for (int k = before; k < 19; k++) {
                x.page(0, 1, 2 * k + 1);
            }
            c.due("full, and one has begun as number " + before, x.range(0, 101, false), 0);
            c.due("would end before it began", x.range(0, 99, true), 0);
            c.due("ends", x.range(0, 102, true), 1);
            c.thrown("full, and none has begun", Checks.UNSUPPORTED, () -> x.range(0, 101, false));
            c.due("the range", x.locator(0, 19, 2), 102);
        }
    }
}
