/** Promise 1: no entries, no style, no out, both rules on. */
public final class NewObjectTest {
    public static void main(String[] args) {
        Checks c = new Checks();
        IndexSort x = new IndexSort();
        c.due("run of a new object", x.run(), 0);
        c.due("warnings of a new object", x.told(-1, 0), 0);
        c.due("print without a style", x.print(), -1);
        c.thrown("at of a new object", Checks.ARRAY_INDEX, () -> x.at(0));
        c.thrown("row of a new object", Checks.INDEX, () -> x.row(0, 0));
        c.thrown("locator of a new object", Checks.INDEX, () -> x.locator(0, 0, 0));
        c.thrown("compare of a new object", Checks.NO_ELEMENT, () -> x.compare(0, 0));
        c.due("style is empty", x.style('|'), 1);
        c.due("DIGITS is on", x.rule(0, true), 1);
        c.due("WORDS is on", x.rule(1, true), 1);

        IndexSort one = new IndexSort();
        IndexSort other = new IndexSort();
        Checks.top(one, "a");
        one.rule(0, false);
        c.due("another object has no entries", other.run(), 0);
        c.due("another object has its own rules", other.rule(0, true), 1);
        c.end();
    }
}
