/** Promise 2: entry. */
public final class EntryTest {
    public static void main(String[] args) {
        Checks c = new Checks();
        numbers(c);
        noSuchElement(c);
        arguments(c);
        full(c);
        c.end();
    }

    private static void numbers(Checks c) {
        c.words("An entry without words: its number.");
        Book x = new Book();
        c.due("level 0", x.entry(0, -1), 0);
        c.due("level 1", x.entry(1, 0), 1);
        c.due("level 2", x.entry(2, 1), 2);
        c.due("level 0 again", x.entry(0, -1), 3);
        c.due("under an earlier one", x.entry(1, 0), 4);
        c.due("and under that", x.entry(2, 4), 5);
        Checks.style(x, "|<%w>|<%w>|<%w>");
        c.due("without words", Checks.printed(x), "<><><>");
        c.due("no locators", x.row(0, 2), 0);
        c.due("nothing to see", x.row(0, 3), 0);
        for (int e = 0; e < 6; e++) {
            c.due("its first sign", x.sign(e, 'a' + e), 1);
            c.due("its first page", x.page(e, 1, 1), 1);
        }
        c.due("each under its own", Checks.rows(x), "0 1 2 4 5 3");
    }

    private static void noSuchElement(Checks c) {
        c.words("NoSuchElementException when above is not -1, and no entry;");
        Book x = new Book();
        for (int above : new int[] {Integer.MIN_VALUE, -2, 0, 1, Integer.MAX_VALUE}) {
            for (int level : new int[] {Integer.MIN_VALUE, -1, 0, 1, 2, 3, Integer.MAX_VALUE}) {
                c.thrown("level " + level + " under " + above, Checks.NO_ELEMENT, () -> x.entry(level, above));
            }
        }
        c.due("-1 is none, and fits", x.entry(0, -1), 0);
        c.thrown("the next number is no entry yet", Checks.NO_ELEMENT, () -> x.entry(1, 1));
        c.due("the last one is", x.entry(1, 0), 1);
        c.thrown("nor is the next one", Checks.NO_ELEMENT, () -> x.entry(2, 2));
    }

    private static void arguments(Checks c) {
        c.words("IllegalArgumentException when level is not 0 .. 2, or above is none of the level before (of level 0: not -1);");
        Book x = new Book();
        c.thrown("level -1", Checks.ARGUMENT, () -> x.entry(-1, -1));
        c.thrown("level 1 under none", Checks.ARGUMENT, () -> x.entry(1, -1));
        c.thrown("level 2 under none", Checks.ARGUMENT, () -> x.entry(2, -1));
        c.thrown("level 3", Checks.ARGUMENT, () -> x.entry(3, -1));
        x.entry(0, -1);
        c.thrown("level 0 under one", Checks.ARGUMENT, () -> x.entry(0, 0));
        c.thrown("level 2 under level 0", Checks.ARGUMENT, () -> x.entry(2, 0));
        x.entry(1, 0);
        c.thrown("level 0 under level 1", Checks.ARGUMENT, () -> x.entry(0, 1));
        c.thrown("level 1 under level 1", Checks.ARGUMENT, () -> x.entry(1, 1));
        x.entry(2, 1);
        c.thrown("level 0 under level 2", Checks.ARGUMENT, () -> x.entry(0, 2));
        c.thrown("level 1 under level 2", Checks.ARGUMENT, () -> x.entry(1, 2));
        c.thrown("level 2 under level 2", Checks.ARGUMENT, () -> x.entry(2, 2));
        c.thrown("level 3 under level 2", Checks.ARGUMENT, () -> x.entry(3, 2));
        c.thrown("level -1 under level 0", Checks.ARGUMENT, () -> x.entry(-1, 0));
        c.thrown("the greatest level", Checks.ARGUMENT, () -> x.entry(Integer.MAX_VALUE, 2));
        c.thrown("the least level", Checks.ARGUMENT, () -> x.entry(Integer.MIN_VALUE, -1));
        c.due("what threw has made none", x.entry(0, -1), 3);
    }

    private static void full(Checks c) {
        c.words("UnsupportedOperationException when there are 80.");
        Book x = new Book();
        for (int k = 0; k < 80; k++) {
            c.due("entry " + k, x.entry(0, -1), k);
        }
        c.thrown("entry 80", Checks.UNSUPPORTED, () -> x.entry(0, -1));
        c.thrown("entry 80 of level 1", Checks.UNSUPPORTED, () -> x.entry(1, 79));
        c.thrown("a wrong level of a full index", Checks.ARGUMENT, () -> x.entry(3, -1));
        c.thrown("above no entry of a full index", Checks.NO_ELEMENT, () -> x.entry(1, 80));
        c.due("the last one is there", x.sign(79, 'a'), 1);
        c.due("two different words", x.run(), 2);
    }
}
