/** Promise 11: compare; the ORDER of words. */
public final class CompareTest {
    public static void main(String[] args) {
        Checks c = new Checks();
        wrong(c);
        lists(c);
        equal(c);
        c.end();
    }

    private static void wrong(Checks c) {
        IndexSort x = new IndexSort();
        x.entry(0, -1);
        c.thrown("a -1", Checks.NO_ELEMENT, () -> x.compare(-1, 0));
        c.thrown("b -1", Checks.NO_ELEMENT, () -> x.compare(0, -1));
        c.thrown("a 1", Checks.NO_ELEMENT, () -> x.compare(1, 0));
        c.thrown("b 1", Checks.NO_ELEMENT, () -> x.compare(0, 1));
        c.due("itself", x.compare(0, 0), 0);
    }

    private static void equal(Checks c) {
        IndexSort x = new IndexSort();
        int a = Checks.top(x, "ab");
        int under = Checks.under(x, a, 1, "ab");
        c.due("levels do not count", x.compare(a, under), 0);
        x.sign(under, 'c');
        c.due("before", x.compare(a, under), -1);
        c.due("behind", x.compare(under, a), 1);
    }

    /** Every list is in order, so that each pair of it says what compare answers. */
    private static void lists(Checks c) {
        inOrder(c, true, true, "", "0", "1", "1 2", "1a", "2", "9", "10", "a", "a 0", "a 1", "a b", "a b c",
            "a bb", "a0", "a1", "a9", "a10", "aa", "b", "z");
        inOrder(c, true, true, "", "\0", " ", "-", "\u00b0", "0", "00", "1");
        inOrder(c, true, true, "a", "a!", "\u00e1", "A", "\u00c1", "aa");
        inOrder(c, true, true, "ab", "aB", "\u00e1b", "Ab", "AB", "\u00c1b");
        inOrder(c, true, true, "a  b", "a b", "a-b", "a\u00adb", "ab");
        inOrder(c, true, true, "(a)", "-a", "[a", "a", "a-", "A", "{a", "aa");
        inOrder(c, true, true, "9223372036854775807", "9223372036854775808", "18446744073709551616",
            "99999999999999999998", "99999999999999999999", "a");
        inOrder(c, true, true, "00000000000000000007", "0000000000000000007", "7", "08", "8", "010", "10");
        inOrder(c, true, true, "1", "1\u00b2", "1\u00b21", "1a", "12");
        inOrder(c, true, true, "a1-2", "a1-10", "a1b", "a12");
        inOrder(c, false, true, "0", "00", "01", "1", "10", "12", "9", "a1", "a10", "a2");
        inOrder(c, false, true, "1", "1 9", "11", "12", "1a");
        inOrder(c, true, false, "1-2", "1-10", "12", "-a", "a", "a-b", "abc", "a-d");
        inOrder(c, false, false, "1 1", "11", "1 2", "12", "13", "a b", "ab", "a c");
    }

    private static void inOrder(Checks c, boolean digits, boolean words, String... list) {
        IndexSort x = new IndexSort();
        x.rule(0, digits);
        x.rule(1, words);
        for (String s : list) {
            Checks.top(x, s);
        }
        for (int a = 0; a < list.length; a++) {
            for (int b = 0; b < list.length; b++) {
                c.due("[" + list[a] + "] to [" + list[b] + "] " + digits + " " + words, x.compare(a, b), Integer.compare(a, b));
            }
        }
    }
}
