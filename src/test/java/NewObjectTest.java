/** Promise 1: a new object; and that it answers for 512 calls. */
public final class NewObjectTest {
    public static void main(String[] args) {
        Checks c = new Checks();
        c.words("No entries, no style, no out; the rules DIGITS and WORDS are on.");
        entries(c);
        style(c);
        out(c);
        rules(c);
        objectsApart(c);
        lastCall(c);
        c.end();
    }

    private static void entries(Checks c) {
        Book x = new Book();
        c.due("run", x.run(), 0);
        c.due("warnings", x.told(-1, 0), 0);
        c.thrown("row", Checks.INDEX, () -> x.row(0, 0));
        c.thrown("locator", Checks.INDEX, () -> x.locator(0, 0, 0));
        c.thrown("warning", Checks.INDEX, () -> x.told(0, 0));
        c.thrown("compare", Checks.NO_ELEMENT, () -> x.compare(0, 0));
        c.thrown("sign", Checks.NO_ELEMENT, () -> x.sign(0, 'a'));
        c.thrown("page", Checks.NO_ELEMENT, () -> x.page(0, 1, 1));
        c.thrown("range", Checks.NO_ELEMENT, () -> x.range(0, 1, false));
        c.thrown("see", Checks.NO_ELEMENT, () -> x.see(0, 0));
        c.thrown("entry under one", Checks.NO_ELEMENT, () -> x.entry(1, 0));
        c.due("the first entry", x.entry(0, -1), 0);
    }

    private static void style(Checks c) {
        Book x = new Book();
        c.due("print without a style: a fault at its end", x.print(), -1);
        c.due("its first sign", x.style('|'), 1);
        c.due("it is gone", x.style(0), 0);
        c.due("gone when there is none", new Book().style(0), 0);
    }

    private static void out(Checks c) {
        Book x = new Book();
        c.thrown("at 0", Checks.ARRAY_INDEX, () -> x.at(0));
        Checks.style(x, "a|b|c|d");
        c.due("the out of no rows", x.print(), 0);
        c.thrown("at 0 of it", Checks.ARRAY_INDEX, () -> x.at(0));
    }

    private static void rules(Checks c) {
        Book x = new Book();
        c.due("DIGITS", x.rule(0, true), 1);
        c.due("WORDS", x.rule(1, true), 1);
        Book y = Checks.tops("9", "10", "a b", "a0");
        c.due("they hold", Checks.rows(y), "0 1 2 3");
    }

    private static void objectsApart(Checks c) {
        Book one = new Book();
        Book other = new Book();
        Checks.top(one, "a");
        one.rule(0, false);
        Checks.style(one, "|%w||");
        one.print();
        c.due("another object has no entries", other.run(), 0);
        c.due("and its own rules", other.rule(0, true), 1);
        c.due("and its own style", other.style('x'), 1);
        c.thrown("and its own out", Checks.ARRAY_INDEX, () -> other.at(0));
    }

    private static void lastCall(Checks c) {
        Book x = new Book();
        for (int k = 0; k < 80; k++) {
            x.entry(0, -1);
        }
        while (x.callsLeft() > 10) {
            int e = x.callsLeft() % 80;
            x.page(e, 1, 1 + x.callsLeft());
        }
        Checks.style(x, "|%p||");
        c.due("pages 12 .. 433 as one, at the 509th", x.row(0, 2), 1);
        c.due("at the 510th", x.locator(0, 0, 2), 433);
        c.due("at the 511th", x.print(), 6);
        c.due("at the 512th", x.at(5), '3');
        c.due("calls left", x.callsLeft(), 0);
    }
}
