/** Promise 10: locator; pages next to each other told as one. */
public final class LocatorTest {
    public static void main(String[] args) {
        Checks c = new Checks();
        c.words("Of locator j of row i: 0 its kind, 1 from, 2 to.");
        fields(c);
        rowsOfPages(c);
        toldRanges(c);
        joined(c);
        refused(c);
        c.end();
    }

    private static void fields(Checks c) {
        Book x = Checks.tops("a", "b");
        x.page(0, 1, 5);
        c.due("kind", x.locator(0, 0, 0), 1);
        c.due("from", x.locator(0, 0, 1), 5);
        c.due("to", x.locator(0, 0, 2), 5);
        x.page(0, 0, 7);
        c.due("a new page is there at once", x.locator(0, 0, 1), 7);
        c.due("its kind", x.locator(0, 0, 0), 0);
        Checks.pages(x, 0, 2, 702, 701, 700);
        c.due("the last kind", x.locator(0, 2, 0), 2);
        c.due("its from", x.locator(0, 2, 1), 700);
        c.due("its to", x.locator(0, 2, 2), 702);
        Checks.range(x, 1, 1, 99999);
        c.due("of the next row: kind", x.locator(1, 0, 0), 1);
        c.due("of the next row: from", x.locator(1, 0, 1), 1);
        c.due("of the next row: to", x.locator(1, 0, 2), 99999);
    }

    private static void refused(Checks c) {
        c.words("IndexOutOfBoundsException.");
        Book x = Checks.tops("a", "b", "a", "c");
        x.page(0, 1, 5);
        x.page(2, 1, 9);
        x.page(3, 1, 1);
        int[] far = {Integer.MIN_VALUE, -1, 3, 4, Integer.MAX_VALUE};
        for (int n : far) {
            c.thrown("row " + n, Checks.INDEX, () -> x.locator(n, 0, 0));
            c.thrown("locator " + n, Checks.INDEX, () -> x.locator(0, n, 0));
            c.thrown("what " + n, Checks.INDEX, () -> x.locator(0, 0, n));
            c.thrown("all " + n, Checks.INDEX, () -> x.locator(n, n, n));
        }
        c.due("the last locator", x.locator(0, 1, 1), 9);
        c.thrown("behind it", Checks.INDEX, () -> x.locator(0, 2, 1));
        c.thrown("a row without any", Checks.INDEX, () -> x.locator(1, 0, 1));
        c.due("the last row", x.locator(2, 0, 1), 1);
        c.thrown("the last row's second", Checks.INDEX, () -> x.locator(2, 1, 1));
        Book none = new Book();
        c.thrown("no rows", Checks.INDEX, () -> none.locator(0, 0, 0));
        Book empty = Checks.tops("a");
        for (int what = -1; what <= 3; what++) {
            int w = what;
            c.thrown("no locators, " + w, Checks.INDEX, () -> empty.locator(0, 0, w));
        }
    }

    private static String of(int kind, int... numbers) {
        Book x = new Book();
        Checks.pages(x, x.entry(0, -1), kind, numbers);
        return Checks.locators(x, 0);
    }

    private static void rowsOfPages(Checks c) {
        c.due("none", of(1), "");
        c.due("two", of(1, 8, 7), "1:7-7 1:8-8");
        c.due("three", of(1, 9, 7, 8), "1:7-9");
        c.due("three with one twice", of(1, 7, 8, 8), "1:7-7 1:8-8");
        c.due("three apart", of(1, 1, 3, 5), "1:1-1 1:3-3 1:5-5");
        c.due("some", of(1, 20, 1, 2, 3, 5, 6, 21, 22, 9), "1:1-3 1:5-5 1:6-6 1:9-9 1:20-22");
        c.due("Roman ones", of(0, 3, 2, 1, 3999, 3998), "0:1-3 0:3998-3998 0:3999-3999");
        c.due("letters", of(2, 26, 27, 28, 702), "2:26-28 2:702-702");

        Book x = new Book();
        int e = x.entry(0, -1);
        Checks.pages(x, e, 2, 3, 1);
        Checks.pages(x, e, 1, 2, 99999);
        Checks.pages(x, e, 0, 1, 3);
        c.due("kinds stay apart", Checks.locators(x, 0), "0:1-1 0:3-3 1:2-2 1:99999-99999 2:1-1 2:3-3");
    }

    private static void toldRanges(Checks c) {
        Book x = new Book();
        int e = x.entry(0, -1);
        Checks.range(x, e, 10, 11);
        c.due("a range of two", Checks.locators(x, 0), "1:10-11");
        Checks.range(x, e, 30, 30);
        c.due("a range of one", Checks.locators(x, 0), "1:10-11 1:30-30");
        x.page(e, 1, 31);
        c.due("a range of one and a page", Checks.locators(x, 0), "1:10-11 1:30-31");
        Checks.range(x, e, 12, 20);
        c.due("ranges next to each other", Checks.locators(x, 0), "1:10-20 1:30-31");
        Checks.range(x, e, 13, 15);
        c.due("a range in a range", Checks.locators(x, 0), "1:10-20 1:30-31");
        Checks.range(x, e, 5, 12);
        c.due("ranges that overlap", Checks.locators(x, 0), "1:5-20 1:30-31");
        x.range(e, 40, false);
        x.page(e, 1, 41);
        c.due("a range that is not ended is no told one", Checks.locators(x, 0), "1:5-20 1:30-31 1:40-40 1:41-41");
        x.range(e, 40, true);
        c.due("once ended it is", Checks.locators(x, 0), "1:5-20 1:30-31 1:40-41");
        x.page(e, 1, 21);
        Checks.range(x, e, 22, 29);
        c.due("a gap is closed", Checks.locators(x, 0), "1:5-31 1:40-41");

        Book y = new Book();
        int f = y.entry(0, -1);
        Checks.pages(y, f, 1, 10, 30);
        Checks.range(y, f, 10, 11);
        Checks.range(y, f, 31, 31);
        c.due("ranges that do not begin their rows", Checks.locators(y, 0), "1:10-11 1:30-31");
    }

    private static void joined(Checks c) {
        Book x = new Book();
        int one = Checks.top(x, "a");
        int b = Checks.top(x, "b");
        int two = Checks.top(x, "a");
        int three = Checks.top(x, "a");
        x.page(three, 1, 1);
        x.page(one, 1, 3);
        x.page(b, 1, 8);
        x.page(two, 1, 2);
        c.due("pages of all that are the same", Checks.locators(x, 0), "1:1-3");
        c.due("and of no other", Checks.locators(x, 1), "1:8-8");
        c.due("the first row again", Checks.locators(x, 0), "1:1-3");
        x.sign(two, 'x');
        c.due("parted", Checks.locators(x, 0), "1:1-1 1:3-3");
        c.due("parted: its own", Checks.locators(x, 1), "1:2-2");
    }
}
