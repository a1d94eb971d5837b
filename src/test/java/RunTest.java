/** Promise 8: run; and which entries are ROWS, JOINED. */
public final class RunTest {
    public static void main(String[] args) {
        Checks c = new Checks();
        c.words("How many ROWS there are.");
        joined(c);
        under(c);
        most(c);
        c.end();
    }

    private static void joined(Checks c) {
        Book x = new Book();
        c.due("none", x.run(), 0);
        x.entry(0, -1);
        c.due("one without words", x.run(), 1);
        x.entry(0, -1);
        c.due("two without words are the same", x.run(), 1);
        x.sign(1, 'a');
        c.due("other words", x.run(), 2);
        c.due("again", x.run(), 2);
        x.sign(0, 'a');
        c.due("the same words again", x.run(), 1);
        Checks.top(x, "A");
        c.due("another case is not the same", x.run(), 2);
        Checks.top(x, "\u00e1");
        c.due("a mark is not the same", x.run(), 3);
        Checks.top(x, "a ");
        c.due("an equal key is not the same", x.run(), 4);
        Checks.under(x, 0, 1, "a");
        c.due("another level is not the same", x.run(), 5);
    }

    private static void under(Checks c) {
        Book x = new Book();
        int a = Checks.top(x, "a");
        int b = Checks.top(x, "b");
        int leaf = Checks.under(x, a, 1, "leaf");
        int other = Checks.under(x, b, 1, "leaf");
        Checks.under(x, leaf, 2, "vein");
        Checks.under(x, other, 2, "vein");
        c.due("under others they are others", Checks.rows(x), "0 2 4 1 3 5");
        int again = Checks.top(x, "a");
        int leafAgain = Checks.under(x, again, 1, "leaf");
        int veinAgain = Checks.under(x, leafAgain, 2, "vein");
        c.due("under the same they are the same", Checks.rows(x), "0 2 4 1 3 5");
        x.sign(veinAgain, 's');
        c.due("a row under a joined one", Checks.rows(x), "0 2 4 8 1 3 5");
        x.sign(again, 'a');
        c.due("parted from the first one", Checks.rows(x), "0 2 4 6 7 8 1 3 5");
        x.sign(b, 'b');
        x.sign(a, 'a');
        c.due("joined anew", Checks.rows(x), "0 2 4 8 1 3 5");
    }

    private static void most(Checks c) {
        Book x = new Book();
        for (int k = 0; k < 80; k++) {
            x.entry(k == 0 ? 0 : k == 1 ? 1 : 2, k == 0 ? -1 : k == 1 ? 0 : 1);
            c.due("all of the last level are the same", x.run(), Math.min(3, k + 1));
        }
        for (int k = 2; k < 80; k++) {
            x.sign(k, k);
            c.due("one more", x.run(), k == 79 ? 80 : k + 2);
        }
    }
}
