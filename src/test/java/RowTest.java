/** Promise 9: row. */
public final class RowTest {
    public static void main(String[] args) {
        Checks c = new Checks();
        fields(c);
        order(c);
        atOnce(c);
        refused(c);
        c.end();
    }

    private static void fields(Checks c) {
        c.words("Of row i: 0 its entry, 1 its level, 2 how many locators, 3 how many rows to see, 4 its group.");
        Book x = new Book();
        int tree = Checks.top(x, "Tree");
        int leaf = Checks.under(x, tree, 1, "leaf");
        int vein = Checks.under(x, leaf, 2, "9");
        int tree2 = Checks.top(x, "Tree");
        Checks.pages(x, tree, 1, 1, 2, 3, 9);
        Checks.pages(x, tree2, 0, 1);
        x.see(tree, leaf);
        x.see(tree2, vein);
        x.see(tree2, leaf);
        int[][] due = {{tree, 0, 3, 2, 't'}, {leaf, 1, 0, 0, 't'}, {vein, 2, 0, 0, 't'}};
        for (int i = 0; i < 3; i++) {
            for (int what = 0; what < 5; what++) {
                c.due("row " + i + ", " + what, x.row(i, what), due[i][what]);
            }
        }
    }

    private static void order(Checks c) {
        c.words("Of row i: 0 its entry, 1 its level, 2 how many locators, 3 how many rows to see, 4 its group.");
        Book x = new Book();
        int b = Checks.top(x, "b");
        int a = Checks.top(x, "a");
        int bz = Checks.under(x, b, 1, "z");
        int by = Checks.under(x, b, 1, "y");
        int az = Checks.under(x, a, 1, "z");
        int bz2 = Checks.under(x, bz, 2, "2");
        int bz1 = Checks.under(x, bz, 2, "1");
        int by1 = Checks.under(x, by, 2, "1");
        c.due("levels", Checks.rows(x), a + " " + az + " " + b + " " + by + " " + by1 + " " + bz + " " + bz1 + " " + bz2);
        x.sign(a, 'c');
        x.sign(b, 'a');
        c.due("a key that goes on", x.row(0, 0), a);
    }

    private static void atOnce(Checks c) {
        c.words("Of row i: 0 its entry, 1 its level, 2 how many locators, 3 how many rows to see, 4 its group.");
        Book x = Checks.tops("m", "n");
        c.due("no locators", x.row(0, 2), 0);
        x.page(0, 1, 1);
        c.due("a page", x.row(0, 2), 1);
        x.range(0, 5, false);
        c.due("a range begins", x.row(0, 2), 2);
        x.page(0, 1, 7);
        c.due("a page more", x.row(0, 2), 3);
        x.range(0, 6, true);
        c.due("the range ends", x.row(0, 2), 2);
        x.see(0, 1);
        c.due("one to see", x.row(0, 3), 1);
        x.sign(1, 'x');
        c.due("its words have changed", x.row(0, 3), 1);
        Checks.top(x, "a");
        c.due("another row is first", x.row(0, 4), 'a');
        c.due("it has no locators", x.row(0, 2), 0);
        c.due("the row behind it has them", x.row(1, 2), 2);
        c.due("the row behind it has them, asked again", x.row(1, 2), 2);
        c.due("the row behind that has none", x.row(2, 2), 0);
    }

    private static void refused(Checks c) {
        c.words("IndexOutOfBoundsException.");
        Book x = Checks.tops("a", "b", "a");
        for (int what = -1; what <= 5; what++) {
            int w = what;
            c.thrown("row -1, " + w, Checks.INDEX, () -> x.row(-1, w));
            c.thrown("row 2, " + w + ": an entry, and no row", Checks.INDEX, () -> x.row(2, w));
            c.thrown("row 3, " + w, Checks.INDEX, () -> x.row(3, w));
            c.thrown("the least row, " + w, Checks.INDEX, () -> x.row(Integer.MIN_VALUE, w));
            c.thrown("the greatest row, " + w, Checks.INDEX, () -> x.row(Integer.MAX_VALUE, w));
        }
        for (int what : new int[] {Integer.MIN_VALUE, -1, 5, 6, Integer.MAX_VALUE}) {
            c.thrown("row 0, " + what, Checks.INDEX, () -> x.row(0, what));
            c.thrown("row 1, " + what, Checks.INDEX, () -> x.row(1, what));
        }
        c.due("the last row", x.row(1, 0), 1);
        Book none = new Book();
        c.thrown("no rows", Checks.INDEX, () -> none.row(0, 0));
        c.thrown("no rows, and what 5", Checks.INDEX, () -> none.row(0, 5));
    }
}
