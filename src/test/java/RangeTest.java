/** Promise 5: range. */
public final class RangeTest {
    public static void main(String[] args) {
        Checks c = new Checks();
        answers(c);
        limit(c);
        c.end();
    }

    private static void answers(Checks c) {
        IndexSort x = new IndexSort();
        c.thrown("no entry", Checks.NO_ELEMENT, () -> x.range(0, 1, false));
        c.thrown("no entry before a wrong number", Checks.NO_ELEMENT, () -> x.range(0, 0, true));
        x.entry(0, -1);
        x.entry(0, -1);
        x.sign(1, 'b');
        for (boolean ends : new boolean[] {false, true}) {
            c.thrown("number 0", Checks.ARGUMENT, () -> x.range(0, 0, ends));
            c.thrown("number 100000", Checks.ARGUMENT, () -> x.range(0, 100000, ends));
            c.thrown("number -1", Checks.ARGUMENT, () -> x.range(0, -1, ends));
        }
        c.due("ends, and none has begun", x.range(0, 5, true), 0);
        c.due("begins", x.range(0, 5, false), 1);
        c.due("begins again", x.range(0, 6, false), 0);
        c.due("another entry has not begun", x.range(1, 9, true), 0);
        c.due("would end before its begin", x.range(0, 4, true), 0);
        c.due("not ended: its begin is a page", Checks.locators(x, 0), "1:5-5");
        c.due("not ended: told", Checks.warnings(x), "1:0:5 3:1:0");
        c.due("ends where it began", x.range(0, 5, true), 1);
        c.due("ends again", x.range(0, 6, true), 0);
        c.due("ended: not told", Checks.warnings(x), "3:1:0");
        c.due("begins anew", x.range(0, 1, false), 1);
        c.due("ends at the last number", x.range(0, 99999, true), 1);
        c.due("all numbers", Checks.locators(x, 0), "1:1-99999");
        c.due("of the other one", x.range(1, 99999, false), 1);
        c.due("it ends there", x.range(1, 99999, true), 1);
        c.due("a range of one page", Checks.locators(x, 1), "1:99999-99999");
        c.due("it counts as one", x.page(1, 1, 1), 2);
    }

    private static void limit(Checks c) {
        IndexSort x = new IndexSort();
        x.entry(0, -1);
        for (int k = 1; k <= 19; k++) {
            x.page(0, 1, 2 * k);
        }
        c.due("the 20th is a range", x.range(0, 100, false), 1);
        c.due("a full entry whose range has begun", x.range(0, 101, false), 0);
        c.due("a full entry's range ends", x.range(0, 101, true), 1);
        c.thrown("the 21st", Checks.UNSUPPORTED, () -> x.range(0, 200, false));
        c.thrown("a wrong number at full pages", Checks.ARGUMENT, () -> x.range(0, 0, false));
        c.due("ends, and none has begun, at full pages", x.range(0, 200, true), 0);
        c.due("20 locators", x.row(0, 2), 20);

        IndexSort y = new IndexSort();
        y.entry(0, -1);
        c.due("the first one is a range", y.range(0, 100, false), 1);
        for (int k = 1; k <= 19; k++) {
            y.page(0, 1, 2 * k);
        }
        c.due("a full entry whose first range has not ended", y.range(0, 101, false), 0);
    }
}
