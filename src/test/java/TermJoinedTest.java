/** "Terms": JOINED and ROWS. */
public final class TermJoinedTest {
    public static void main(String[] args) {
        Checks c = new Checks();
        same(c);
        firstSuch(c);
        underTheSame(c);
        counts(c);
        countsOfMany(c);
        rows(c);
        order(c);
        equalOnes(c);
        behindEach(c);
        c.end();
    }

    private static int rowsOf(String a, String b) {
        return Checks.tops(a, b).run();
    }

    private static void same(Checks c) {
        c.words("JOINED: an entry is the SAME as an earlier one (the first such) that has the same level, the same words, and is under the same one");
        c.due("without words", rowsOf("", ""), 1);
        c.due("one sign", rowsOf("a", "a"), 1);
        c.due("20 signs", rowsOf("abcdefghijklmnopqrst", "abcdefghijklmnopqrst"), 1);
        c.due("the 20th differs", rowsOf("abcdefghijklmnopqrst", "abcdefghijklmnopqrsT"), 2);
        c.due("the first differs", rowsOf("abc", "Abc"), 2);
        c.due("a mark", rowsOf("abc", "ab\u00e3"), 2);
        c.due("sign 0 behind it", rowsOf("a", "a\0"), 2);
        c.due("sign 0 alone", rowsOf("", "\0"), 2);
        c.due("sign 128 and sign 0", rowsOf("\u0080", "\0"), 2);
        c.due("an equal key", rowsOf("a-b", "a b"), 2);
        c.due("an equal number", rowsOf("7", "07"), 2);
        Book x = new Book();
        int top = Checks.top(x, "a");
        int one = Checks.under(x, top, 1, "a");
        Checks.under(x, one, 2, "a");
        c.due("each level its own", Checks.rows(x), "0 1 2");
        int other = Checks.top(x, "b");
        int leaf = Checks.under(x, other, 1, "a");
        Checks.under(x, leaf, 2, "a");
        c.due("under others", Checks.rows(x), "0 1 2 3 4 5");
        Checks.under(x, top, 1, "a");
        Checks.under(x, leaf, 2, "a");
        c.due("under the same ones", Checks.rows(x), "0 1 2 3 4 5");
    }

    private static void firstSuch(Checks c) {
        c.words("JOINED: an entry is the SAME as an earlier one (the first such) that has the same level, the same words, and is under the same one");
        Book x = Checks.tops("b", "a", "a", "a", "a");
        x.page(4, 1, 9);
        c.due("the first of four", Checks.rows(x), "1 0");
        c.due("has the page of the last", Checks.locators(x, 0), "1:9-9");
        x.sign(1, 'x');
        c.due("then the second is first", Checks.rows(x), "2 1 0");
        c.due("and has that page", Checks.locators(x, 0), "1:9-9");
        x.sign(0, 'c');
        x.sign(2, 'x');
        c.due("an earlier one gains", Checks.rows(x), "3 1 0");
    }

    private static void underTheSame(Checks c) {
        c.words("(or one that is the same as that).");
        Book x = Checks.tops("t", "t", "t");
        int a = Checks.under(x, 2, 1, "l");
        int b = Checks.under(x, 1, 1, "l");
        int d = Checks.under(x, 0, 1, "l");
        Checks.under(x, d, 2, "v");
        Checks.under(x, b, 2, "v");
        Checks.under(x, a, 2, "v");
        c.due("three of each", Checks.rows(x), "0 3 6");
        x.sign(1, 's');
        c.due("one of them is another one", Checks.rows(x), "0 3 6 1 4 7");
        x.sign(b, 's');
        c.due("and what is under it", Checks.rows(x), "0 3 6 1 4 7");
        x.sign(0, 's');
        c.due("it changes sides", Checks.rows(x), "2 3 8 0 5 6 4 7");
    }

    private static void counts(Checks c) {
        c.words("It counts for that: its pages, its words to see, what is under it.");
        Book x = Checks.tops("m", "n", "m");
        x.page(2, 1, 5);
        x.see(2, 1);
        Checks.under(x, 2, 1, "u");
        c.due("what is under it", Checks.rows(x), "0 3 1");
        c.due("pages", x.row(0, 2), 1);
        c.due("to see", x.row(0, 3), 1);
        Checks.style(x, "|%w:%p:%s.|-%w.|");
        c.due("printed", Checks.printed(x), "m:5:n.-u.n::.");
        x.sign(2, 'x');
        c.due("no longer", Checks.printed(x), "m::.mx:5:n.-u.n::.");
    }

    private static void countsOfMany(Checks c) {
        c.words("It counts for that: its pages, its words to see, what is under it.");
        Book x = new Book();
        for (int k = 0; k < 80; k++) {
            x.entry(0, -1);
        }
        for (int k = 0; k < 80; k++) {
            for (int n = 0; n < 3; n++) {
                c.due("page", x.page(k, 1, 99999 - 2 * (k + 80 * n)), n + 1);
            }
        }
        c.due("80 entries, one row", x.run(), 1);
        c.due("240 pages", x.row(0, 2), 240);
        c.due("the first", x.locator(0, 0, 1), 99999 - 2 * 239);
        c.due("the last", x.locator(0, 239, 1), 99999);
        c.thrown("behind the last", Checks.INDEX, () -> x.locator(0, 240, 1));
        for (int k = 0; k < 12; k++) {
            x.see(k, (k + 1) % 80);
            x.see(k, (k + 40) % 80);
        }
        c.due("all of them the row itself", x.row(0, 3), 1);

        Book y = new Book();
        for (int k = 0; k < 79; k++) {
            y.entry(0, -1);
            if (k >= 16) {
                y.sign(k, 'a' + k % 26);
                y.sign(k, 'a' + k / 26);
            }
        }
        for (int k = 0; k < 63; k++) {
            c.due("to see", y.see(k / 5, 16 + k), 1);
        }
        c.due("all others are to see", y.row(0, 3), 63);
    }

    private static void rows(Checks c) {
        c.words("ROWS: entries that are not the same as an earlier one:");
        c.due("none", new Book().run(), 0);
        c.due("one", Checks.tops("").run(), 1);
        c.due("some", Checks.rows(Checks.tops("b", "a", "b", "c", "a", "c")), "1 0 3");
        Book x = new Book();
        for (int k = 0; k < 80; k++) {
            x.entry(0, -1);
        }
        c.due("80 without words", x.run(), 1);
        for (int k = 0; k < 80; k++) {
            x.sign(k, 255 - k);
        }
        c.due("80 with others", x.run(), 80);
        c.due("the last row", x.row(79, 1), 0);
        c.thrown("behind it", Checks.INDEX, () -> x.row(80, 1));
    }

    private static void order(Checks c) {
        c.words("those of level 0 in ORDER");
        Book x = Checks.tops("b", "a10", "-", "a9", "7", "A", "", "a", "a 1", "10", "\u00e1");
        c.due("rows", Checks.rows(x), "6 2 4 9 7 10 5 8 3 1 0");
        Book y = new Book();
        for (int k = 0; k < 80; k++) {
            y.entry(0, -1);
            for (int n = 0; n < 4; n++) {
                y.sign(k, '0' + (79 - k) / (n == 0 ? 1000 : n == 1 ? 100 : n == 2 ? 10 : 1) % 10);
            }
        }
        for (int i = 0; i < 80; i++) {
            c.due("80 rows, the last one first", y.row(i, 0), 79 - i);
        }
    }

    /** Rows that stand in one list are never equal: that would make them the same. */
    private static void equalOnes(Checks c) {
        c.words("(of equal ones the earlier one first),");
        Book x = Checks.tops("q", "p", "q", "p");
        c.due("equal ones", x.compare(0, 2), 0);
        c.due("the earlier one of each", Checks.rows(x), "1 0");
        Checks.under(x, 2, 1, "e");
        Checks.under(x, 0, 1, "e");
        Checks.under(x, 1, 1, "e");
        c.due("under another one they stay", Checks.rows(x), "1 6 0 4");
    }

    private static void behindEach(Checks c) {
        c.words("behind each those under it, likewise.");
        Book x = Checks.tops("b", "a");
        int bz = Checks.under(x, 0, 1, "z");
        int ba = Checks.under(x, 0, 1, "a");
        int az = Checks.under(x, 1, 1, "z");
        Checks.under(x, bz, 2, "9");
        Checks.under(x, bz, 2, "10");
        Checks.under(x, ba, 2, "y");
        Checks.under(x, az, 2, "");
        Checks.under(x, ba, 2, "x");
        c.due("by order at each level", Checks.rows(x), "1 4 8 0 3 9 7 2 5 6");
        for (int i = 0; i < 10; i++) {
            c.due("its level", x.row(i, 1), "0120122122".charAt(i) - '0');
        }
        x.rule(0, false);
        c.due("each digit by itself", Checks.rows(x), "1 4 8 0 3 9 7 2 6 5");
    }
}
