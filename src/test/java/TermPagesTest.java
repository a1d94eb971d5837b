/** "Terms": PAGES, their kinds and limits, and LOCATORS. */
public final class TermPagesTest {
    private static final int[] FAR = {Integer.MIN_VALUE, -100000, -1, 0, 100000, 100001, 200000, Integer.MAX_VALUE};

    public static void main(String[] args) {
        Checks c = new Checks();
        roman(c);
        numbers(c);
        letters(c);
        kinds(c);
        byKindsAndNumbers(c);
        threeOrMore(c);
        longestRows(c);
        toldRange(c);
        toldRangeInARow(c);
        eachByItself(c);
        notEnded(c);
        c.end();
    }

    private static String textOf(int kind, int n) {
        Book x = new Book();
        x.page(x.entry(0, -1), kind, n);
        Checks.style(x, "|%p||");
        return Checks.printed(x);
    }

    private static void limits(Checks c, int kind, int last) {
        Book x = new Book();
        x.entry(0, -1);
        c.thrown("0", Checks.ARGUMENT, () -> x.page(0, kind, 0));
        c.due("1", x.page(0, kind, 1), 1);
        c.due("the last", x.page(0, kind, last), 2);
        c.thrown("behind the last", Checks.ARGUMENT, () -> x.page(0, kind, last + 1));
        for (int n : FAR) {
            c.thrown("number " + n, Checks.ARGUMENT, () -> x.page(0, kind, n));
        }
        c.due("what was taken", Checks.locators(x, 0), kind + ":1-1 " + kind + ":" + last + "-" + last);
    }

    private static void roman(Checks c) {
        c.words("PAGES are of a KIND: 0 small Roman numbers (1 .. 3999),");
        limits(c, 0, 3999);
        int[] n = {1, 2, 3, 4, 5, 6, 8, 9, 10, 14, 19, 39, 40, 49, 50, 89, 90, 99, 100, 399, 400, 444, 499, 500, 899, 900,
            999, 1000, 1999, 2024, 3000, 3888, 3998, 3999};
        String[] due = {"i", "ii", "iii", "iv", "v", "vi", "viii", "ix", "x", "xiv", "xix", "xxxix", "xl", "xlix", "l",
            "lxxxix", "xc", "xcix", "c", "cccxcix", "cd", "cdxliv", "cdxcix", "d", "dcccxcix", "cm", "cmxcix", "m", "mcmxcix",
            "mmxxiv", "mmm", "mmmdccclxxxviii", "mmmcmxcviii", "mmmcmxcix"};
        for (int k = 0; k < n.length; k++) {
            c.due("" + n[k], textOf(0, n[k]), due[k]);
        }
    }

    private static void numbers(Checks c) {
        c.words("1 numbers (1 .. 99999),");
        limits(c, 1, 99999);
        for (int n : new int[] {1, 9, 10, 11, 99, 100, 101, 999, 1000, 1001, 9999, 10000, 10001, 90909, 99998, 99999}) {
            c.due("" + n, textOf(1, n), "" + n);
        }
    }

    private static void letters(Checks c) {
        c.words("2 small letters (1 .. 702: a .. z, aa, ab .. zz).");
        limits(c, 2, 702);
        int[] n = {1, 2, 25, 26, 27, 28, 51, 52, 53, 54, 78, 79, 676, 677, 701, 702};
        String[] due = {"a", "b", "y", "z", "aa", "ab", "ay", "az", "ba", "bb", "bz", "ca", "yz", "za", "zy", "zz"};
        for (int k = 0; k < n.length; k++) {
            c.due("" + n[k], textOf(2, n[k]), due[k]);
        }
    }

    private static void kinds(Checks c) {
        c.words("PAGES are of a KIND: 0 small Roman numbers (1 .. 3999),");
        Book x = new Book();
        x.entry(0, -1);
        for (int kind : new int[] {Integer.MIN_VALUE, -2, -1, 3, 4, 100, Integer.MAX_VALUE}) {
            c.thrown("kind " + kind, Checks.ARGUMENT, () -> x.page(0, kind, 1));
        }
        c.thrown("3999 is the last Roman one", Checks.ARGUMENT, () -> x.page(0, 0, 4000));
        c.due("4000 is a number", x.page(0, 1, 4000), 1);
        c.thrown("4000 is no letter", Checks.ARGUMENT, () -> x.page(0, 2, 4000));
        c.due("703 is a Roman one", x.page(0, 0, 703), 2);
    }

    private static String of(int... kindsAndNumbers) {
        Book x = new Book();
        int e = x.entry(0, -1);
        for (int k = 0; k < kindsAndNumbers.length; k += 2) {
            x.page(e, kindsAndNumbers[k], kindsAndNumbers[k + 1]);
        }
        return Checks.locators(x, 0);
    }

    private static void byKindsAndNumbers(Checks c) {
        c.words("LOCATORS of a row: all its pages, by kinds, then numbers, each once;");
        c.due("none", of(), "");
        c.due("the last kind first", of(2, 1, 1, 5, 0, 9), "0:9-9 1:5-5 2:1-1");
        c.due("numbers by value", of(1, 10, 1, 9, 1, 100), "1:9-9 1:10-10 1:100-100");
        c.due("each once", of(1, 4, 1, 4, 0, 4, 1, 4, 0, 4), "0:4-4 1:4-4");
        c.due("first and last of all kinds", of(2, 702, 2, 1, 1, 99999, 1, 1, 0, 3999, 0, 1),
                "0:1-1 0:3999-3999 1:1-1 1:99999-99999 2:1-1 2:702-702");
        c.due("kinds are not one behind the other", of(0, 1, 1, 2, 2, 3), "0:1-1 1:2-2 2:3-3");
        c.due("nor at their ends", of(0, 3999, 0, 3998, 1, 1, 1, 2, 1, 99998, 1, 99999, 2, 1, 2, 2),
                "0:3998-3998 0:3999-3999 1:1-1 1:2-2 1:99998-99998 1:99999-99999 2:1-1 2:2-2");
        c.due("20 pages", of(1, 40, 1, 38, 1, 36, 1, 34, 1, 32, 1, 30, 1, 28, 1, 26, 1, 24, 1, 22, 1, 20, 1, 18, 1, 16, 1, 14,
                1, 12, 1, 10, 1, 8, 1, 6, 1, 4, 1, 2).split(" ").length, 20);
        c.due("20 times one page", of(2, 7, 2, 7, 2, 7, 2, 7, 2, 7, 2, 7, 2, 7, 2, 7, 2, 7, 2, 7, 2, 7, 2, 7, 2, 7, 2, 7, 2, 7,
                2, 7, 2, 7, 2, 7, 2, 7, 2, 7), "2:7-7");
    }

    private static void threeOrMore(Checks c) {
        c.words("of each longest row of numbers one behind the other one FROM .. TO, if it has three or more,");
        int[] last = {3999, 99999, 702};
        for (int kind = 0; kind < 3; kind++) {
            String k = kind + ":";
            c.due("one", of(kind, 5), k + "5-5");
            c.due("two", of(kind, 5, kind, 6), k + "5-5 " + k + "6-6");
            c.due("two, one of them twice", of(kind, 5, kind, 6, kind, 6, kind, 5), k + "5-5 " + k + "6-6");
            c.due("three", of(kind, 5, kind, 6, kind, 7), k + "5-7");
            c.due("three, backwards", of(kind, 7, kind, 6, kind, 5), k + "5-7");
            c.due("four", of(kind, 7, kind, 5, kind, 8, kind, 6), k + "5-8");
            c.due("the first three", of(kind, 1, kind, 2, kind, 3), k + "1-3");
            int n = last[kind];
            c.due("the last three", of(kind, n, kind, n - 1, kind, n - 2), k + (n - 2) + "-" + n);
        }
    }

    private static void longestRows(Checks c) {
        c.words("of each longest row of numbers one behind the other one FROM .. TO, if it has three or more,");
        c.due("a gap of one", of(1, 1, 1, 2, 1, 3, 1, 5, 1, 6, 1, 7), "1:1-3 1:5-7");
        c.due("the gap is closed", of(1, 1, 1, 2, 1, 3, 1, 5, 1, 6, 1, 7, 1, 4), "1:1-7");
        c.due("three and two", of(1, 1, 1, 2, 1, 3, 1, 5, 1, 6), "1:1-3 1:5-5 1:6-6");
        c.due("two and three", of(1, 1, 1, 2, 1, 4, 1, 5, 1, 6), "1:1-1 1:2-2 1:4-6");
        Book x = new Book();
        int e = x.entry(0, -1);
        for (int k = 0; k < 20; k++) {
            x.page(e, 1, 100 - k);
        }
        c.due("20 of them", Checks.locators(x, 0), "1:81-100");
    }

    private static void toldRange(Checks c) {
        c.words("or a told range lies in it;");
        Book x = new Book();
        int e = x.entry(0, -1);
        Checks.range(x, e, 8, 8);
        c.due("of one page", Checks.locators(x, 0), "1:8-8");
        x.page(e, 1, 8);
        c.due("that page once more", Checks.locators(x, 0), "1:8-8");
        x.page(e, 1, 9);
        c.due("of one page in two", Checks.locators(x, 0), "1:8-9");
        Checks.range(x, e, 1, 2);
        c.due("of two pages", Checks.locators(x, 0), "1:1-2 1:8-9");
        Checks.range(x, e, 11, 13);
        c.due("of three", Checks.locators(x, 0), "1:1-2 1:8-9 1:11-13");
        x.page(e, 1, 10);
        c.due("one row of all", Checks.locators(x, 0), "1:1-2 1:8-13");
        Checks.range(x, e, 1, 99999);
        c.due("of all pages", Checks.locators(x, 0), "1:1-99999");
        x.page(e, 0, 3999);
        x.page(e, 2, 1);
        c.due("it stays in its kind", Checks.locators(x, 0), "0:3999-3999 1:1-99999 2:1-1");
    }

    private static String around(int from, int to, int... pages) {
        Book x = new Book();
        int e = x.entry(0, -1);
        Checks.pages(x, e, 1, pages);
        Checks.range(x, e, from, to);
        return Checks.locators(x, 0);
    }

    private static void toldRangeInARow(Checks c) {
        c.words("or a told range lies in it;");
        c.due("at its begin", around(5, 5, 6), "1:5-6");
        c.due("at its end", around(6, 6, 5), "1:5-6");
        c.due("in its middle", around(6, 6, 5, 7), "1:5-7");
        c.due("a page in it", around(5, 9, 7), "1:5-9");
        c.due("a page at its begin", around(5, 6, 5), "1:5-6");
        c.due("a page at its end", around(5, 6, 6), "1:5-6");
        c.due("a page just before it", around(5, 6, 4), "1:4-6");
        c.due("a page just behind it", around(5, 6, 7), "1:5-7");
        c.due("a page one more before", around(5, 6, 3), "1:3-3 1:5-6");
        c.due("a page one more behind", around(5, 6, 8), "1:5-6 1:8-8");
        c.due("a row of two elsewhere", around(5, 6, 8, 9), "1:5-6 1:8-8 1:9-9");
        c.due("a short one in a long one", around(7, 7, 5, 6, 8, 9), "1:5-9");
        Book x = Checks.tops("a", "a");
        Checks.range(x, 0, 10, 20);
        Checks.range(x, 1, 12, 15);
        x.page(1, 1, 18);
        x.page(1, 1, 21);
        c.due("what lies in a longer one does not end it", Checks.locators(x, 0), "1:10-21");
        Checks.range(x, 1, 22, 22);
        c.due("the next one behind it", Checks.locators(x, 0), "1:10-22");
    }

    private static void eachByItself(Checks c) {
        c.words("else each by itself.");
        c.due("two of each kind", of(0, 1, 0, 2, 1, 1, 1, 2, 2, 1, 2, 2), "0:1-1 0:2-2 1:1-1 1:2-2 2:1-1 2:2-2");
        c.due("the last two", of(0, 3998, 0, 3999, 2, 701, 2, 702), "0:3998-3998 0:3999-3999 2:701-701 2:702-702");
        Book x = new Book();
        int e = x.entry(0, -1);
        Checks.range(x, e, 5, 6);
        Checks.pages(x, e, 0, 5, 6);
        Checks.pages(x, e, 2, 5, 6);
        c.due("a told range is of kind 1", Checks.locators(x, 0), "0:5-5 0:6-6 1:5-6 2:5-5 2:6-6");
    }

    private static void notEnded(Checks c) {
        c.words("(A range that is not ended is a page, its begin.)");
        Book x = new Book();
        int e = x.entry(0, -1);
        x.range(e, 5, false);
        c.due("alone", Checks.locators(x, 0), "1:5-5");
        x.page(e, 1, 5);
        c.due("once", Checks.locators(x, 0), "1:5-5");
        x.page(e, 1, 6);
        c.due("two are each by itself", Checks.locators(x, 0), "1:5-5 1:6-6");
        x.page(e, 1, 4);
        c.due("three are one", Checks.locators(x, 0), "1:4-6");
        x.range(e, 9, true);
        c.due("ended it is more", Checks.locators(x, 0), "1:4-9");
        Book y = new Book();
        int f = y.entry(0, -1);
        Checks.range(y, f, 7, 7);
        y.range(f, 99999, false);
        y.page(f, 1, 99998);
        c.due("the last page, beside a range that is ended", Checks.locators(y, 0), "1:7-7 1:99998-99998 1:99999-99999");
        c.due("it does not end at what comes before", y.range(f, 99998, true), 0);
        c.due("still each by itself", Checks.locators(y, 0), "1:7-7 1:99998-99998 1:99999-99999");
        c.due("it ends", y.range(f, 99999, true), 1);
        c.due("then they are one", Checks.locators(y, 0), "1:7-7 1:99998-99999");
    }
}
