/** Promise 12: told. */
public final class ToldTest {
    public static void main(String[] args) {
        Checks c = new Checks();
        wrong(c);
        kinds(c);
        joined(c);
        c.end();
    }

    private static void wrong(Checks c) {
        IndexSort x = new IndexSort();
        c.due("none", x.told(-1, 0), 0);
        c.thrown("the first of none", Checks.INDEX, () -> x.told(0, 0));
        x.entry(0, -1);
        c.due("one", x.told(-1, 0), 1);
        c.due("how many, whatever what is", x.told(-1, 9), 1);
        c.due("how many, what -1", x.told(-1, -1), 1);
        int[][] wrong = {{1, 0}, {-2, 0}, {0, 3}, {0, -1}, {Integer.MIN_VALUE, 0}, {Integer.MAX_VALUE, 0}};
        for (int[] w : wrong) {
            c.thrown("told " + w[0] + ", " + w[1], Checks.INDEX, () -> x.told(w[0], w[1]));
        }
        c.due("kind", x.told(0, 0), 3);
        c.due("entry", x.told(0, 1), 0);
        c.due("number", x.told(0, 2), 0);
    }

    private static void kinds(Checks c) {
        IndexSort x = new IndexSort();
        int d = Checks.top(x, "d");
        int b = Checks.top(x, "b");
        int a = Checks.top(x, "a");
        int sub = Checks.under(x, a, 1, "s");
        c.due("empty ones by entries, not by rows", Checks.warnings(x), "3:0:0 3:1:0 3:3:0");
        x.see(d, sub);
        x.see(d, b);
        c.due("something to see is not nothing", Checks.warnings(x), "2:0:3 2:0:1 3:1:0 3:3:0");
        x.page(b, 0, 4);
        c.due("a page is something, at both ends", Checks.warnings(x), "2:0:3 3:3:0");
        x.range(d, 77, false);
        c.due("by kinds, of one entry", Checks.warnings(x), "1:0:77 2:0:3 3:3:0");
        x.range(sub, 8, false);
        c.due("a range that is not ended is a page", Checks.warnings(x), "1:0:77 1:3:8");
        x.range(d, 78, true);
        c.due("an ended one", Checks.warnings(x), "1:3:8");
        x.see(b, a);
        c.due("pages of what is under it are not its own", Checks.warnings(x), "2:1:2 1:3:8");
    }

    private static void joined(Checks c) {
        IndexSort x = new IndexSort();
        int one = Checks.top(x, "a");
        int two = Checks.top(x, "a");
        int b = Checks.top(x, "b");
        c.due("only the first one is empty", Checks.warnings(x), "3:0:0 3:2:0");
        x.see(b, two);
        c.due("the entry itself is told, not its row", Checks.warnings(x), "3:0:0 2:2:1");
        x.page(two, 1, 4);
        c.due("a page of the same one", Checks.warnings(x), "");
        x.see(b, one);
        c.due("pages of its row", Checks.warnings(x), "");
        x.sign(two, 'x');
        c.due("parted", Checks.warnings(x), "3:0:0 2:2:0");
        IndexSort y = new IndexSort();
        Checks.top(y, "a");
        int again = Checks.top(y, "a");
        int under = Checks.under(y, again, 1, "u");
        c.due("something under the same one", Checks.warnings(y), "3:2:0");
        y.see(again, under);
        c.due("each one tells what it sees", Checks.warnings(y), "2:1:2 3:2:0");
        IndexSort z = new IndexSort();
        Checks.top(z, "a");
        int same = Checks.top(z, "a");
        z.see(same, Checks.top(z, "c"));
        z.page(2, 1, 1);
        c.due("something to see at the same one", Checks.warnings(z), "");
        z.sign(same, 'x');
        c.due("it is at another one now", Checks.warnings(z), "3:0:0");
        y.sign(again, 'x');
        c.due("it is under another one now", Checks.warnings(y), "3:0:0 2:1:2 3:2:0");
    }
}
