/** "Terms": WARNINGS. */
public final class TermWarningsTest {
    public static void main(String[] args) {
        Checks c = new Checks();
        none(c);
        byEntriesAndKinds(c);
        mostOfOneEntry(c);
        mostOfAll(c);
        notEnded(c);
        noPageToSee(c);
        rowOfOneToSee(c);
        empty(c);
        emptyOfJoined(c);
        c.end();
    }

    private static void none(Checks c) {
        c.words("WARNINGS, by entries, of one entry by kinds:");
        c.due("of nothing", Checks.warnings(new Book()), "");
        Book x = Checks.tops("a");
        x.page(0, 2, 702);
        c.due("of a page", Checks.warnings(x), "");
        c.due("none", x.told(-1, 0), 0);
    }

    private static void byEntriesAndKinds(Checks c) {
        c.words("WARNINGS, by entries, of one entry by kinds:");
        Book x = Checks.tops("d", "c", "b", "a");
        x.see(2, 3);
        x.range(2, 9, false);
        x.see(0, 1);
        x.range(0, 8, false);
        c.due("not by rows, and not as told", Checks.warnings(x), "1:0:8 2:0:1 3:1:0 1:2:9 2:2:3 3:3:0");
    }

    private static void mostOfOneEntry(Checks c) {
        c.words("WARNINGS, by entries, of one entry by kinds:");
        Book x = Checks.tops("a", "b", "c", "d", "e", "f");
        Checks.see(x, 0, 5, 1, 4, 2, 3);
        x.range(0, 1, false);
        c.due("six of one", Checks.warnings(x), "1:0:1 2:0:5 2:0:1 2:0:4 2:0:2 2:0:3 3:1:0 3:2:0 3:3:0 3:4:0 3:5:0");
    }

    private static void mostOfAll(Checks c) {
        c.words("WARNINGS, by entries, of one entry by kinds:");
        Book x = new Book();
        for (int k = 0; k < 80; k++) {
            x.sign(x.entry(0, -1), 100 + k);
        }
        c.due("80 empty ones", x.told(-1, 0), 80);
        c.due("the last of them", x.told(79, 1), 79);
        c.thrown("behind it", Checks.INDEX, () -> x.told(80, 1));
        for (int k = 0; k < 300; k++) {
            x.see(k / 5, 60 + k / 5 % 10 + k % 5);
        }
        c.due("300 to see and 20 empty ones", x.told(-1, 0), 320);
        c.due("the last one to see", x.told(299, 0), 2);
        c.due("is of entry 59", x.told(299, 1), 59);
        c.due("and is entry 73", x.told(299, 2), 73);
        c.due("the first empty one", x.told(300, 1), 60);
        c.due("the last warning", x.told(319, 1), 79);
        c.thrown("behind the last warning", Checks.INDEX, () -> x.told(320, 0));
    }

    private static void notEnded(Checks c) {
        c.words("1 a range that is not ended (its begin);");
        for (int n : new int[] {1, 2, 99998, 99999}) {
            Book x = Checks.tops("a");
            x.range(0, n, false);
            c.due("it begins", Checks.warnings(x), "1:0:" + n);
            c.due("one before its begin is no end", x.range(0, n == 1 ? 1 : n - 1, true), n == 1 ? 1 : 0);
            c.due("then", Checks.warnings(x), n == 1 ? "" : "1:0:" + n);
            x.range(0, n, true);
            c.due("it is ended", Checks.warnings(x), "");
            x.range(0, 99999, false);
            c.due("the next one", Checks.warnings(x), "1:0:99999");
        }
        Book y = Checks.tops("a", "a");
        y.page(1, 1, 3);
        y.range(1, 5, false);
        y.page(1, 1, 1);
        c.due("at an entry that is joined, between pages", Checks.warnings(y), "1:1:5");
        y.range(0, 6, false);
        c.due("each of two that are the same", Checks.warnings(y), "1:0:6 1:1:5");
        c.due("the other one's end", y.range(0, 9, true), 1);
        c.due("does not end it", Checks.warnings(y), "1:1:5");
    }

    private static void noPageToSee(Checks c) {
        c.words("2 each entry to see, in the order told, whose row has no page (that entry);");
        Book x = Checks.tops("a", "b", "c", "d");
        Checks.see(x, 0, 3, 1, 2);
        c.due("in the order told", Checks.warnings(x), "2:0:3 2:0:1 2:0:2 3:1:0 3:2:0 3:3:0");
        x.page(1, 0, 1);
        c.due("a page", Checks.warnings(x), "2:0:3 2:0:2 3:2:0 3:3:0");
        x.range(2, 5, false);
        c.due("a range that is not ended is a page", Checks.warnings(x), "2:0:3 1:2:5 3:3:0");
        x.range(2, 5, true);
        c.due("one that is ended too", Checks.warnings(x), "2:0:3 3:3:0");
        x.see(3, 0);
        c.due("to see each other", Checks.warnings(x), "2:0:3 2:3:0");
        int under = Checks.under(x, 3, 1, "u");
        x.page(under, 1, 1);
        c.due("a page under it is not its page", Checks.warnings(x), "2:0:3 2:3:0");
        x.see(under, 3);
        c.due("at one of level 1", Checks.warnings(x), "2:0:3 2:3:0 2:4:3");
    }

    private static void rowOfOneToSee(Checks c) {
        c.words("2 each entry to see, in the order told, whose row has no page (that entry);");
        Book x = Checks.tops("a", "b", "b", "a");
        Checks.see(x, 0, 2, 1);
        c.due("two of one row, the entries themselves", Checks.warnings(x), "2:0:2 2:0:1 3:1:0");
        x.see(3, 1);
        c.due("at one that is joined", Checks.warnings(x), "2:0:2 2:0:1 3:1:0 2:3:1");
        x.page(2, 1, 1);
        c.due("the page of one is the row's", Checks.warnings(x), "");
        x.see(3, 0);
        c.due("its own row", Checks.warnings(x), "2:3:0");
        x.sign(2, 'x');
        c.due("parted from its row", Checks.warnings(x), "2:0:1 3:1:0 2:3:1 2:3:0");
    }

    private static void empty(Checks c) {
        c.words("3 an entry that is not the same as an earlier one, whose row has no page, nothing to see, and nothing under it.");
        Book x = Checks.tops("a");
        c.due("empty", Checks.warnings(x), "3:0:0");
        int one = Checks.under(x, 0, 1, "b");
        c.due("one under it", Checks.warnings(x), "3:1:0");
        int two = Checks.under(x, one, 2, "c");
        c.due("one under that", Checks.warnings(x), "3:2:0");
        x.page(two, 0, 1);
        c.due("a page at the last level", Checks.warnings(x), "");
        Book y = Checks.tops("a", "b", "c");
        y.see(0, 1);
        c.due("something to see, though that has no page", Checks.warnings(y), "2:0:1 3:1:0 3:2:0");
        y.range(2, 1, false);
        c.due("a range", Checks.warnings(y), "2:0:1 3:1:0 1:2:1");
        c.due("an empty one without words", Checks.warnings(Checks.tops("")), "3:0:0");
    }

    private static void emptyOfJoined(Checks c) {
        c.words("3 an entry that is not the same as an earlier one, whose row has no page, nothing to see, and nothing under it.");
        Book x = Checks.tops("a", "a", "a");
        c.due("the first of three alone", Checks.warnings(x), "3:0:0");
        x.page(2, 1, 1);
        c.due("a page of the third", Checks.warnings(x), "");
        Book y = Checks.tops("a", "a", "b");
        y.page(2, 1, 1);
        y.see(1, 2);
        c.due("something to see at the second", Checks.warnings(y), "");
        Book z = Checks.tops("a", "a");
        Checks.under(z, 1, 1, "u");
        c.due("something under the second", Checks.warnings(z), "3:2:0");
        Checks.under(z, 0, 1, "u");
        c.due("the same under the first", Checks.warnings(z), "3:2:0");
        z.sign(2, 's');
        c.due("each under its own", Checks.warnings(z), "3:2:0 3:3:0");
    }
}
