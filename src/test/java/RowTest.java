/** Promise 9: row; the ORDER of rows and their GROUPS. */
public final class RowTest {
    public static void main(String[] args) {
        Checks c = new Checks();
        fields(c);
        groups(c);
        order(c);
        c.end();
    }

    private static void fields(Checks c) {
        IndexSort x = new IndexSort();
        int tree = Checks.top(x, "Tree");
        int leaf = Checks.under(x, tree, 1, "leaf");
        int vein = Checks.under(x, leaf, 2, "9");
        int tree2 = Checks.top(x, "Tree");
        Checks.pages(x, tree, 1, 1, 2, 3, 9);
        Checks.pages(x, tree2, 0, 1);
        x.see(tree, leaf);
        x.see(tree2, vein);
        x.see(tree2, leaf);
        int[][] due = {{tree, 0, 3, 2, 't'}, {leaf, 1, 0, 0, 't'}, {vein, 2, 0, 0, 't'}};
        for (int i = 0; i < 3; i++) {
            for (int what = 0; what < 5; what++) {
                c.due("row " + i + ", " + what, x.row(i, what), due[i][what]);
            }
        }
        int[][] wrong = {{3, 0}, {-1, 0}, {0, 5}, {0, -1}, {3, 5}, {Integer.MIN_VALUE, 0}, {0, Integer.MAX_VALUE}};
        for (int[] w : wrong) {
            c.thrown("row " + w[0] + ", " + w[1], Checks.INDEX, () -> x.row(w[0], w[1]));
        }
    }

    private static void groups(Checks c) {
        String[] words = {"", " -!", "7", "(0)", "\u00b1", "\u00c1b", "zz", "-Zebra", "1a"};
        int[] due = {0, 0, 1, 1, 0, 'a', 'z', 'z', 1};
        for (int k = 0; k < words.length; k++) {
            IndexSort x = new IndexSort();
            Checks.under(x, Checks.top(x, words[k]), 1, "q");
            for (int rules = 0; rules < 4; rules++) {
                x.rule(0, rules % 2 == 0);
                x.rule(1, rules < 2);
                c.due("group of [" + words[k] + "]", x.row(0, 4), due[k]);
                c.due("group under [" + words[k] + "]", x.row(1, 4), due[k]);
            }
        }
    }

    private static void order(Checks c) {
        IndexSort x = new IndexSort();
        int b = Checks.top(x, "b");
        int a = Checks.top(x, "a");
        int bz = Checks.under(x, b, 1, "z");
        int by = Checks.under(x, b, 1, "y");
        int az = Checks.under(x, a, 1, "z");
        int bz2 = Checks.under(x, bz, 2, "2");
        int bz1 = Checks.under(x, bz, 2, "1");
        int by1 = Checks.under(x, by, 2, "1");
        c.due("levels", Checks.rows(x), a + " " + az + " " + b + " " + by + " " + by1 + " " + bz + " " + bz1 + " " + bz2);
        x.sign(a, 'c');
        x.sign(b, 'a');
        c.due("a key that goes on", Checks.rows(x).startsWith(a + " ") ? 1 : 0, 1);
    }
}
