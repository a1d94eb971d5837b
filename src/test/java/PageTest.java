/** Promise 4: page. */
public final class PageTest {
    private static final int[] LAST = {3999, 99999, 702};

    public static void main(String[] args) {
        Checks c = new Checks();
        howMany(c);
        noSuchElement(c);
        arguments(c);
        full(c);
        c.end();
    }

    private static void howMany(Checks c) {
        c.words("A page of an entry: how many pages and ranges it has then.");
        Book x = Checks.tops("a", "b");
        c.due("the first", x.page(0, 1, 7), 1);
        c.due("the same page counts", x.page(0, 1, 7), 2);
        c.due("of another kind", x.page(0, 2, 7), 3);
        x.range(0, 9, false);
        c.due("a range that has begun counts", x.page(0, 0, 7), 5);
        x.range(0, 8, true);
        x.range(0, 30, false);
        c.due("one that does not end, or begin, does not", x.page(0, 1, 1), 6);
        x.range(0, 12, true);
        c.due("its end does not count once more", x.page(0, 1, 2), 7);
        Checks.range(x, 0, 50, 90);
        c.due("a range counts once, however long", x.page(0, 1, 3), 9);
        c.due("another entry has its own", x.page(1, 1, 9), 1);
        c.due("a page is there at once", Checks.locators(x, 1), "1:9-9");
        Book y = Checks.tops("a", "a");
        y.page(0, 1, 1);
        c.due("one that is the same has its own too", y.page(1, 1, 1), 1);
    }

    private static void noSuchElement(Checks c) {
        c.words("NoSuchElementException; IllegalArgumentException; UnsupportedOperationException when it has 20.");
        Book x = new Book();
        c.thrown("no entry", Checks.NO_ELEMENT, () -> x.page(0, 1, 1));
        c.thrown("no entry and a wrong kind", Checks.NO_ELEMENT, () -> x.page(0, 9, 1));
        c.thrown("no entry and a wrong number", Checks.NO_ELEMENT, () -> x.page(0, 1, 0));
        x.entry(0, -1);
        c.thrown("entry -1", Checks.NO_ELEMENT, () -> x.page(-1, 1, 1));
        c.thrown("entry 1", Checks.NO_ELEMENT, () -> x.page(1, 1, 1));
    }

    private static void arguments(Checks c) {
        c.words("NoSuchElementException; IllegalArgumentException; UnsupportedOperationException when it has 20.");
        Book x = new Book();
        x.entry(0, -1);
        c.thrown("kind -1", Checks.ARGUMENT, () -> x.page(0, -1, 1));
        c.thrown("kind 3", Checks.ARGUMENT, () -> x.page(0, 3, 1));
        c.thrown("kind 3 and number 0", Checks.ARGUMENT, () -> x.page(0, 3, 0));
        for (int kind = 0; kind < 3; kind++) {
            int k = kind;
            for (int n : new int[] {Integer.MIN_VALUE, -1, 0, LAST[k] + 1, 100000, Integer.MAX_VALUE}) {
                c.thrown("number " + n + " of kind " + k, Checks.ARGUMENT, () -> x.page(0, k, n));
            }
            c.due("number 1 of kind " + k, x.page(0, k, 1), 2 * k + 1);
            c.due("the last number of kind " + k, x.page(0, k, LAST[k]), 2 * k + 2);
        }
        c.due("what was told", Checks.locators(x, 0), "0:1-1 0:3999-3999 1:1-1 1:99999-99999 2:1-1 2:702-702");
    }

    private static void full(Checks c) {
        c.words("NoSuchElementException; IllegalArgumentException; UnsupportedOperationException when it has 20.");
        Book x = Checks.tops("a", "a");
        x.range(0, 500, false);
        for (int k = 2; k <= 20; k++) {
            c.due("page " + k, x.page(0, 1, 7), k);
        }
        for (int kind = 0; kind < 3; kind++) {
            int k = kind;
            c.thrown("page 21", Checks.UNSUPPORTED, () -> x.page(0, k, 7));
        }
        c.thrown("a wrong number at full pages", Checks.ARGUMENT, () -> x.page(0, 1, 0));
        c.thrown("a wrong kind at full pages", Checks.ARGUMENT, () -> x.page(0, 3, 1));
        c.due("its range ends", x.range(0, 501, true), 1);
        c.thrown("page 21 then", Checks.UNSUPPORTED, () -> x.page(0, 1, 501));
        c.due("another entry has its own, in the same row", x.page(1, 1, 9), 1);
        c.due("all of them", Checks.locators(x, 0), "1:7-7 1:9-9 1:500-501");
    }
}
