/** Promise 2: entry. */
public final class EntryTest {
    public static void main(String[] args) {
        Checks c = new Checks();
        levels(c);
        limit(c);
        c.end();
    }

    private static void levels(Checks c) {
        IndexSort x = new IndexSort();
        c.thrown("above no entry", Checks.NO_ELEMENT, () -> x.entry(0, 0));
        c.thrown("above -2", Checks.NO_ELEMENT, () -> x.entry(0, -2));
        c.thrown("above no entry before a wrong level", Checks.NO_ELEMENT, () -> x.entry(7, 5));
        c.thrown("level 1 under none", Checks.ARGUMENT, () -> x.entry(1, -1));
        c.thrown("level 2 under none", Checks.ARGUMENT, () -> x.entry(2, -1));
        c.thrown("level 3", Checks.ARGUMENT, () -> x.entry(3, -1));
        c.thrown("level -1", Checks.ARGUMENT, () -> x.entry(-1, -1));
        c.due("the first entry", x.entry(0, -1), 0);
        c.thrown("level 0 under one", Checks.ARGUMENT, () -> x.entry(0, 0));
        c.thrown("level 2 under level 0", Checks.ARGUMENT, () -> x.entry(2, 0));
        c.due("level 1", x.entry(1, 0), 1);
        c.thrown("level 1 under level 1", Checks.ARGUMENT, () -> x.entry(1, 1));
        c.due("level 2", x.entry(2, 1), 2);
        c.thrown("level 3 under level 2", Checks.ARGUMENT, () -> x.entry(3, 2));
        c.thrown("the next number is no entry yet", Checks.NO_ELEMENT, () -> x.entry(1, 3));
        c.due("what threw has made none", x.entry(0, -1), 3);
        c.due("without words", x.sign(3, 'a'), 1);
    }

    private static void limit(Checks c) {
        IndexSort x = new IndexSort();
        for (int k = 0; k < 80; k++) {
            c.due("entry " + k, x.entry(0, -1), k);
        }
        c.thrown("entry 80", Checks.UNSUPPORTED, () -> x.entry(0, -1));
        c.thrown("a wrong level of a full index", Checks.ARGUMENT, () -> x.entry(3, -1));
        c.thrown("above no entry of a full index", Checks.NO_ELEMENT, () -> x.entry(1, 80));
        c.due("the last one is there", x.sign(79, 'a'), 1);
        c.due("two different words", x.run(), 2);
    }
}
