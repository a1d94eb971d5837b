/** Promise 11: compare; the ORDER of words. */
public final class CompareTest {
    public static void main(String[] args) {
        Checks c = new Checks();
        c.words("Whether an entry's words are before another one's in ORDER (-1), behind it (1), or the same (0).");
        lists(c);
        equal(c);
        mostEntries(c);
        refused(c);
        c.end();
    }

    private static void refused(Checks c) {
        c.words("NoSuchElementException.");
        Book x = Checks.tops("", "a");
        for (int e : new int[] {Integer.MIN_VALUE, -2, -1, 2, 3, 79, 80, Integer.MAX_VALUE}) {
            c.thrown("a " + e, Checks.NO_ELEMENT, () -> x.compare(e, 0));
            c.thrown("b " + e, Checks.NO_ELEMENT, () -> x.compare(0, e));
            c.thrown("both " + e, Checks.NO_ELEMENT, () -> x.compare(e, e));
        }
        c.due("itself", x.compare(0, 0), 0);
        c.due("the last one itself", x.compare(1, 1), 0);
        c.due("the first and the last one", x.compare(0, 1), -1);
        Book none = new Book();
        c.thrown("no entries", Checks.NO_ELEMENT, () -> none.compare(0, 0));
    }

    private static void mostEntries(Checks c) {
        Book x = new Book();
        for (int k = 0; k < 80; k++) {
            x.entry(0, -1);
        }
        c.due("without words", x.compare(0, 79), 0);
        x.sign(79, 0);
        c.due("the last one has a sign", x.compare(79, 0), 1);
        c.due("the one before has none", x.compare(78, 79), -1);
    }

    private static void equal(Checks c) {
        Book x = new Book();
        int a = Checks.top(x, "ab");
        int under = Checks.under(x, a, 1, "ab");
        c.due("levels do not count", x.compare(a, under), 0);
        x.sign(under, 'c');
        c.due("before", x.compare(a, under), -1);
        c.due("behind", x.compare(under, a), 1);
    }

    /** Every list is in order, so that each pair of it says what compare answers. */
    private static void lists(Checks c) {
        inOrder(c, true, true, "", "0", "1", "1 2", "1a", "2", "9", "10", "a", "a 0", "a 1", "a b", "a b c",
            "a bb", "a0", "a1", "a9", "a10", "aa", "b", "z");
        inOrder(c, true, true, "", "\0", " ", "-", "\u00b0", "0", "00", "1");
        inOrder(c, true, true, "a", "a!", "\u00e1", "A", "\u00c1", "aa");
        inOrder(c, true, true, "ab", "aB", "\u00e1b", "Ab", "AB", "\u00c1b");
        inOrder(c, true, true, "a  b", "a b", "a-b", "a\u00adb", "ab");
        inOrder(c, true, true, "(a)", "-a", "[a", "a", "a-", "A", "{a", "aa");
        inOrder(c, true, true, "9223372036854775807", "9223372036854775808", "18446744073709551616",
            "99999999999999999998", "99999999999999999999", "a");
        inOrder(c, true, true, "00000000000000000007", "0000000000000000007", "7", "08", "8", "010", "10");
        inOrder(c, true, true, "1", "1\u00b2", "1\u00b21", "1a", "12");
        inOrder(c, true, true, "a1-2", "a1-10", "a1b", "a12");
        inOrder(c, false, true, "0", "00", "01", "1", "10", "12", "9", "a1", "a10", "a2");
        inOrder(c, false, true, "1", "1 9", "11", "12", "1a");
        inOrder(c, true, false, "1-2", "1-10", "12", "-a", "a", "a-b", "abc", "a-d");
        inOrder(c, false, false, "1 1", "11", "1 2", "12", "13", "a b", "ab", "a c");
    }

    private static void inOrder(Checks c, boolean digits, boolean words, String... list) {
        Book x = new Book();
        x.rule(0, digits);
        x.rule(1, words);
        for (String s : list) {
            Checks.top(x, s);
        }
        for (int a = 0; a < list.length; a++) {
            for (int b = 0; b < list.length; b++) {
                c.due("[" + list[a] + "] to [" + list[b] + "] " + digits + " " + words, x.compare(a, b), Integer.compare(a, b));
            }
        }
    }
}
