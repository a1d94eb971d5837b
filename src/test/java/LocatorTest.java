/** Promise 10: locator; pages next to each other told as one. */
public final class LocatorTest {
    public static void main(String[] args) {
        Checks c = new Checks();
        wrong(c);
        rowsOfPages(c);
        toldRanges(c);
        joined(c);
        c.end();
    }

    private static void wrong(Checks c) {
        IndexSort x = new IndexSort();
        int a = Checks.top(x, "a");
        Checks.top(x, "b");
        x.page(a, 1, 5);
        int[][] wrong = {{0, 1, 0}, {0, -1, 0}, {0, 0, 3}, {0, 0, -1}, {1, 0, 0}, {2, 0, 0}, {-1, 0, 0}};
        for (int[] w : wrong) {
            c.thrown("locator " + w[0] + ", " + w[1] + ", " + w[2], Checks.INDEX, () -> x.locator(w[0], w[1], w[2]));
        }
        c.due("kind", x.locator(0, 0, 0), 1);
        c.due("from", x.locator(0, 0, 1), 5);
        c.due("to", x.locator(0, 0, 2), 5);
        x.page(a, 0, 7);
        c.due("a new page is there at once", x.locator(0, 0, 1), 7);
    }

    private static String of(int kind, int... numbers) {
        IndexSort x = new IndexSort();
        Checks.pages(x, x.entry(0, -1), kind, numbers);
        return Checks.locators(x, 0);
    }

    private static void rowsOfPages(Checks c) {
        c.due("none", of(1), "");
        c.due("two", of(1, 8, 7), "1:7-7 1:8-8");
        c.due("three", of(1, 9, 7, 8), "1:7-9");
        c.due("three with one twice", of(1, 7, 8, 8), "1:7-7 1:8-8");
        c.due("three apart", of(1, 1, 3, 5), "1:1-1 1:3-3 1:5-5");
        c.due("some", of(1, 20, 1, 2, 3, 5, 6, 21, 22, 9), "1:1-3 1:5-5 1:6-6 1:9-9 1:20-22");
        c.due("Roman ones", of(0, 3, 2, 1, 3999, 3998), "0:1-3 0:3998-3998 0:3999-3999");
        c.due("letters", of(2, 26, 27, 28, 702), "2:26-28 2:702-702");

        IndexSort x = new IndexSort();
        int e = x.entry(0, -1);
        Checks.pages(x, e, 2, 3, 1);
        Checks.pages(x, e, 1, 2, 99999);
        Checks.pages(x, e, 0, 1, 3);
        c.due("kinds stay apart", Checks.locators(x, 0), "0:1-1 0:3-3 1:2-2 1:99999-99999 2:1-1 2:3-3");
    }

    private static void toldRanges(Checks c) {
        IndexSort x = new IndexSort();
        int e = x.entry(0, -1);
        Checks.range(x, e, 10, 11);
        c.due("a range of two", Checks.locators(x, 0), "1:10-11");
        Checks.range(x, e, 30, 30);
        c.due("a range of one", Checks.locators(x, 0), "1:10-11 1:30-30");
        x.page(e, 1, 31);
        c.due("a range of one and a page", Checks.locators(x, 0), "1:10-11 1:30-31");
        Checks.range(x, e, 12, 20);
        c.due("ranges next to each other", Checks.locators(x, 0), "1:10-20 1:30-31");
        Checks.range(x, e, 13, 15);
        c.due("a range in a range", Checks.locators(x, 0), "1:10-20 1:30-31");
        Checks.range(x, e, 5, 12);
        c.due("ranges that overlap", Checks.locators(x, 0), "1:5-20 1:30-31");
        x.range(e, 40, false);
        x.page(e, 1, 41);
        c.due("a range that is not ended is no told one", Checks.locators(x, 0), "1:5-20 1:30-31 1:40-40 1:41-41");
        x.range(e, 40, true);
        c.due("once ended it is", Checks.locators(x, 0), "1:5-20 1:30-31 1:40-41");
        x.page(e, 1, 21);
        Checks.range(x, e, 22, 29);
        c.due("a gap is closed", Checks.locators(x, 0), "1:5-31 1:40-41");

        IndexSort y = new IndexSort();
        int f = y.entry(0, -1);
        Checks.pages(y, f, 1, 10, 30);
        Checks.range(y, f, 10, 11);
        Checks.range(y, f, 31, 31);
        c.due("ranges that do not begin their rows", Checks.locators(y, 0), "1:10-11 1:30-31");
    }

    private static void joined(Checks c) {
        IndexSort x = new IndexSort();
        int one = Checks.top(x, "a");
        int b = Checks.top(x, "b");
        int two = Checks.top(x, "a");
        int three = Checks.top(x, "a");
        x.page(three, 1, 1);
        x.page(one, 1, 3);
        x.page(b, 1, 8);
        x.page(two, 1, 2);
        c.due("pages of all that are the same", Checks.locators(x, 0), "1:1-3");
        c.due("and of no other", Checks.locators(x, 1), "1:8-8");
        c.due("the first row again", Checks.locators(x, 0), "1:1-3");
        x.sign(two, 'x');
        c.due("parted", Checks.locators(x, 0), "1:1-1 1:3-3");
        c.due("parted: its own", Checks.locators(x, 1), "1:2-2");
    }
}
