/** Promise 6: see. */
public final class SeeTest {
    public static void main(String[] args) {
        Checks c = new Checks();
        IndexSort x = new IndexSort();
        c.thrown("no entries", Checks.NO_ELEMENT, () -> x.see(0, 0));
        for (int k = 0; k < 8; k++) {
            Checks.top(x, String.valueOf((char) ('a' + k)));
        }
        c.thrown("no such entry", Checks.NO_ELEMENT, () -> x.see(8, 0));
        c.thrown("no such other", Checks.NO_ELEMENT, () -> x.see(0, 8));
        c.thrown("entry -1", Checks.NO_ELEMENT, () -> x.see(-1, 0));
        c.thrown("other -1", Checks.NO_ELEMENT, () -> x.see(0, -1));
        c.due("itself", x.see(0, 0), 0);
        c.due("another one", x.see(0, 1), 1);
        c.due("told already", x.see(0, 1), 0);
        c.due("the other way round", x.see(1, 0), 1);
        for (int k = 2; k <= 5; k++) {
            c.due("the next one", x.see(0, k), 1);
        }
        c.thrown("the sixth", Checks.UNSUPPORTED, () -> x.see(0, 6));
        c.thrown("told already, when it has 5", Checks.UNSUPPORTED, () -> x.see(0, 3));
        c.thrown("itself, when it has 5", Checks.UNSUPPORTED, () -> x.see(0, 0));
        c.thrown("no such other, when it has 5", Checks.NO_ELEMENT, () -> x.see(0, 8));
        c.due("five rows to see", x.row(0, 3), 5);
        c.due("one row to see", x.row(1, 3), 1);
        c.due("no row to see", x.row(2, 3), 0);
        Checks.style(x, "|%w(%s)||");
        c.due("in the order told", Checks.printed(x), "a(b; c; d; e; f)b(a)c()d()e()f()g()h()");

        IndexSort y = new IndexSort();
        Checks.top(y, "a");
        Checks.top(y, "b");
        Checks.top(y, "b");
        c.due("an entry", y.see(0, 1), 1);
        c.due("another one that is the same as it", y.see(0, 2), 1);
        c.due("the row once", y.row(0, 3), 1);
        c.due("an entry that joins its own row", y.see(1, 2), 1);
        c.due("the row itself", y.row(1, 3), 1);
        c.end();
    }
}
