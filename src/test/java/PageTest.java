/** Promise 4: page. */
public final class PageTest {
    public static void main(String[] args) {
        Checks c = new Checks();
        arguments(c);
        limit(c);
        c.end();
    }

    private static void arguments(Checks c) {
        IndexSort x = new IndexSort();
        c.thrown("no entry", Checks.NO_ELEMENT, () -> x.page(0, 1, 1));
        c.thrown("no entry before a wrong kind", Checks.NO_ELEMENT, () -> x.page(0, 9, 1));
        x.entry(0, -1);
        c.thrown("entry -1", Checks.NO_ELEMENT, () -> x.page(-1, 1, 1));
        c.thrown("kind -1", Checks.ARGUMENT, () -> x.page(0, -1, 1));
        c.thrown("kind 3", Checks.ARGUMENT, () -> x.page(0, 3, 1));
        int[] last = {3999, 99999, 702};
        for (int kind = 0; kind < 3; kind++) {
            int k = kind;
            c.thrown("number 0 of kind " + k, Checks.ARGUMENT, () -> x.page(0, k, 0));
            c.thrown("number -1 of kind " + k, Checks.ARGUMENT, () -> x.page(0, k, -1));
            c.thrown("number past the last of kind " + k, Checks.ARGUMENT, () -> x.page(0, k, last[k] + 1));
            c.thrown("the least int of kind " + k, Checks.ARGUMENT, () -> x.page(0, k, Integer.MIN_VALUE));
            c.thrown("the greatest int of kind " + k, Checks.ARGUMENT, () -> x.page(0, k, Integer.MAX_VALUE));
            c.due("number 1 of kind " + k, x.page(0, k, 1), 2 * k + 1);
            c.due("the last number of kind " + k, x.page(0, k, last[k]), 2 * k + 2);
        }
        c.due("what was told", Checks.locators(x, 0), "0:1-1 0:3999-3999 1:1-1 1:99999-99999 2:1-1 2:702-702");
    }

    private static void limit(Checks c) {
        IndexSort x = new IndexSort();
        x.entry(0, -1);
        x.entry(0, -1);
        c.due("a range counts", x.range(0, 500, false), 1);
        for (int k = 2; k <= 20; k++) {
            c.due("page " + k, x.page(0, 1, 7), k);
        }
        c.thrown("page 21", Checks.UNSUPPORTED, () -> x.page(0, 1, 7));
        c.thrown("a wrong number at full pages", Checks.ARGUMENT, () -> x.page(0, 1, 0));
        c.due("another entry has its own", x.page(1, 1, 9), 1);
        c.due("the same page counts, and is told once", Checks.locators(x, 0), "1:7-7 1:9-9 1:500-500");
    }
}
