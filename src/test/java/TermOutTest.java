/** "Terms": THE OUT. */
public final class TermOutTest {
    public static void main(String[] args) {
        Checks c = new Checks();
        partOfLevel(c);
        groups(c);
        firstGroup(c);
        nothingInGroups(c);
        c.end();
    }

    private static String printed(Book x, String style) {
        Checks.style(x, style);
        return Checks.printed(x);
    }

    private static void partOfLevel(Checks c) {
        c.words("THE OUT: for each row the part of its level;");
        c.due("no rows", printed(new Book(), "a|b|c|d"), "");
        c.due("one row", printed(Checks.tops(""), "|b|c|d"), "b");
        Book x = Checks.tops("n", "m", "n");
        int one = Checks.under(x, 2, 1, "b");
        Checks.under(x, one, 2, "y");
        Checks.under(x, one, 2, "x");
        Checks.under(x, 0, 1, "a");
        c.due("in the order of rows", printed(x, "|(%w)|[%w]|{%w}"), "(m)(n)[a][b]{x}{y}");
        Book y = new Book();
        for (int k = 0; k < 80; k++) {
            y.sign(y.entry(0, -1), 100 + k);
        }
        c.due("80 rows", printed(y, "|x||").length(), 80);
    }

    private static void groups(Checks c) {
        c.words("before one of level 0 whose group is another one than that of the one before (and before the first one) the part of groups,");
        Book x = Checks.tops("b", "a", "ab", "B", "1", "9", "-", "", "z");
        c.due("each group once", printed(x, "<%g>|%w.||"), "<0>.-.<1>1.9.<a>a.ab.<b>b.B.<z>z.");
        Checks.under(x, 0, 1, "a");
        Checks.under(x, Checks.under(x, 0, 1, "z"), 2, "q");
        c.due("none before other levels, nor behind them", printed(x, "<%g>|%w.|%w,|%w;"),
                "<0>.-.<1>1.9.<a>a.ab.<b>b.a,z,q;B.<z>z.");
        c.due("one group", printed(Checks.tops("a", "A", "\u00e1", "ab"), "G|r||"), "Grrrr");
        Book y = new Book();
        for (int k = 0; k < 26; k++) {
            y.sign(y.entry(0, -1), 'z' - k);
        }
        c.due("26 groups", printed(y, "%g||x|x"), "abcdefghijklmnopqrstuvwxyz");
    }

    private static void firstGroup(Checks c) {
        c.words("before one of level 0 whose group is another one than that of the one before (and before the first one) the part of groups,");
        c.due("of group 0", printed(Checks.tops(""), "<%g>|r||"), "<0>r");
        c.due("of group 1", printed(Checks.tops("0"), "<%g>|r||"), "<1>r");
        c.due("of a letter", printed(Checks.tops("z"), "<%g>|r||"), "<z>r");
        Book x = Checks.tops("z");
        c.due("once", printed(x, "<%g>|r||"), "<z>r");
        c.due("again at the next print", Checks.printed(x), "<z>r");
    }

    private static void nothingInGroups(Checks c) {
        c.words("in which %w, %p, %s are nothing.");
        Book x = Checks.tops("a", "b");
        x.page(0, 1, 7);
        x.see(0, 1);
        c.due("words", printed(x, "<%w>|||"), "<><>");
        c.due("locators", printed(x, "<%p>|||"), "<><>");
        c.due("to see", printed(x, "<%s>|||"), "<><>");
        c.due("the others are as in rows", printed(x, "%w%g%p%n%s%%|||"), "a\n%b\n%");
    }
}
