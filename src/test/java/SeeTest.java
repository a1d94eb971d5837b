/** Promise 6: see. */
public final class SeeTest {
    public static void main(String[] args) {
        Checks c = new Checks();
        another(c);
        byJoining(c);
        notToSee(c);
        noSuchElement(c);
        full(c);
        c.end();
    }

    private static Book eight() {
        return Checks.tops("a", "b", "c", "d", "e", "f", "g", "h");
    }

    private static void another(Checks c) {
        c.words("At an entry another one is to see: 1;");
        Book x = eight();
        c.due("another one", x.see(0, 1), 1);
        c.due("the other way round", x.see(1, 0), 1);
        for (int k = 2; k <= 5; k++) {
            c.due("number " + k, x.see(0, k), 1);
        }
        c.due("five rows to see", x.row(0, 3), 5);
        c.due("one row to see", x.row(1, 3), 1);
        c.due("no row to see", x.row(2, 3), 0);
        Checks.style(x, "|%w(%s)||");
        c.due("in the order told", Checks.printed(x), "a(b; c; d; e; f)b(a)c()d()e()f()g()h()");
        int under = Checks.under(x, 7, 1, "u");
        int last = Checks.under(x, under, 2, "v");
        c.due("one under it", x.see(7, under), 1);
        c.due("one that it is under", x.see(last, 7), 1);
        c.due("of its own level above", x.see(under, last), 1);
    }

    private static void byJoining(Checks c) {
        c.words("At an entry another one is to see: 1;");
        Book x = Checks.tops("a", "b", "b");
        c.due("an entry", x.see(0, 1), 1);
        c.due("another one that is the same as it", x.see(0, 2), 1);
        c.due("the row once", x.row(0, 3), 1);
        c.due("another entry of its own row", x.see(1, 2), 1);
        c.due("the row itself", x.row(1, 3), 1);
        x.sign(2, 'x');
        c.due("parted: two rows", x.row(0, 3), 2);
    }

    private static void notToSee(Checks c) {
        c.words("0, and it is not, when that is itself, or told already.");
        Book x = eight();
        c.due("itself", x.see(0, 0), 0);
        c.due("the last one itself", x.see(7, 7), 0);
        c.due("nothing to see", x.row(0, 3), 0);
        Checks.see(x, 0, 3, 1, 2, 4);
        for (int k = 1; k <= 4; k++) {
            c.due("told already", x.see(0, k), 0);
        }
        c.due("itself, when it has four", x.see(0, 0), 0);
        c.due("four rows to see", x.row(0, 3), 4);
        c.due("at another one it is not told yet", x.see(5, 3), 1);
        c.due("what did not count leaves room for the fifth", x.see(0, 7), 1);
        Checks.style(x, "|%s.||");
        c.due("in the order first told", Checks.printed(x), "d; b; c; e; h.....d...");
    }

    private static void noSuchElement(Checks c) {
        c.words("NoSuchElementException; UnsupportedOperationException when it has 5.");
        Book none = new Book();
        c.thrown("no entries", Checks.NO_ELEMENT, () -> none.see(0, 0));
        c.thrown("no entries, -1", Checks.NO_ELEMENT, () -> none.see(-1, -1));
        Book x = eight();
        for (int e : new int[] {Integer.MIN_VALUE, -1, 8, Integer.MAX_VALUE}) {
            c.thrown("at entry " + e, Checks.NO_ELEMENT, () -> x.see(e, 0));
            c.thrown("to see entry " + e, Checks.NO_ELEMENT, () -> x.see(0, e));
            c.thrown("both " + e, Checks.NO_ELEMENT, () -> x.see(e, e));
        }
        c.due("the first and the last one", x.see(0, 7), 1);
        c.due("the last and the first one", x.see(7, 0), 1);
    }

    /** It has 5: that alone is what the document asks for, whatever the other one is. */
    private static void full(Checks c) {
        c.words("NoSuchElementException; UnsupportedOperationException when it has 5.");
        Book x = eight();
        Checks.see(x, 0, 1, 2, 3, 4);
        c.due("the fifth", x.see(0, 5), 1);
        c.thrown("the sixth", Checks.UNSUPPORTED, () -> x.see(0, 6));
        c.thrown("told already, when it has 5", Checks.UNSUPPORTED, () -> x.see(0, 3));
        c.thrown("itself, when it has 5", Checks.UNSUPPORTED, () -> x.see(0, 0));
        c.thrown("no such other, when it has 5", Checks.NO_ELEMENT, () -> x.see(0, 8));
        c.thrown("the other -1, when it has 5", Checks.NO_ELEMENT, () -> x.see(0, -1));
        c.due("another one has none", x.see(6, 0), 1);
        c.due("five rows to see", x.row(0, 3), 5);
        Book y = Checks.tops("a", "b", "b", "b", "b", "b", "b");
        Checks.see(y, 0, 1, 2, 3, 4, 5);
        c.due("five of one row", y.row(0, 3), 1);
        c.thrown("the sixth of that row", Checks.UNSUPPORTED, () -> y.see(0, 6));
    }
}
