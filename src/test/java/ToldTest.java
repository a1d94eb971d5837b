/** Promise 12: told. */
public final class ToldTest {
    public static void main(String[] args) {
        Checks c = new Checks();
        c.words("Of warning i: 0 its kind, 1 its entry, 2 its number (0 of kind 3);");
        fields(c);
        kinds(c);
        joined(c);
        howMany(c);
        refused(c);
        c.end();
    }

    private static void fields(Checks c) {
        Book x = Checks.tops("a", "b", "c");
        x.range(1, 99999, false);
        x.see(1, 2);
        int[][] due = {{3, 0, 0}, {1, 1, 99999}, {2, 1, 2}, {3, 2, 0}};
        for (int i = 0; i < 4; i++) {
            for (int what = 0; what < 3; what++) {
                c.due("warning " + i + ", " + what, x.told(i, what), due[i][what]);
            }
        }
    }

    private static void howMany(Checks c) {
        c.words("i = -1: how many.");
        Book x = new Book();
        c.due("none", x.told(-1, 0), 0);
        x.entry(0, -1);
        for (int what : new int[] {Integer.MIN_VALUE, -1, 0, 1, 2, 3, 9, Integer.MAX_VALUE}) {
            c.due("one, what " + what, x.told(-1, what), 1);
        }
        x.page(0, 1, 1);
        c.due("none again", x.told(-1, 0), 0);
    }

    private static void refused(Checks c) {
        c.words("IndexOutOfBoundsException.");
        Book none = new Book();
        c.thrown("the first of none", Checks.INDEX, () -> none.told(0, 0));
        Book x = Checks.tops("a", "b");
        for (int i : new int[] {Integer.MIN_VALUE, -3, -2, 2, 3, Integer.MAX_VALUE}) {
            for (int what = -1; what <= 3; what++) {
                int w = what;
                c.thrown("told " + i + ", " + w, Checks.INDEX, () -> x.told(i, w));
            }
        }
        for (int what : new int[] {Integer.MIN_VALUE, -1, 3, Integer.MAX_VALUE}) {
            c.thrown("told 0, " + what, Checks.INDEX, () -> x.told(0, what));
            c.thrown("told 1, " + what, Checks.INDEX, () -> x.told(1, what));
        }
        c.due("the last one", x.told(1, 1), 1);
    }

    private static void kinds(Checks c) {
        Book x = new Book();
        int d = Checks.top(x, "d");
        int b = Checks.top(x, "b");
        int a = Checks.top(x, "a");
        int sub = Checks.under(x, a, 1, "s");
        c.due("empty ones by entries, not by rows", Checks.warnings(x), "3:0:0 3:1:0 3:3:0");
        x.see(d, sub);
        x.see(d, b);
        c.due("something to see is not nothing", Checks.warnings(x), "2:0:3 2:0:1 3:1:0 3:3:0");
        x.page(b, 0, 4);
        c.due("a page is something, at both ends", Checks.warnings(x), "2:0:3 3:3:0");
        x.range(d, 77, false);
        c.due("by kinds, of one entry", Checks.warnings(x), "1:0:77 2:0:3 3:3:0");
        x.range(sub, 8, false);
        c.due("a range that is not ended is a page", Checks.warnings(x), "1:0:77 1:3:8");
        x.range(d, 78, true);
        c.due("an ended one", Checks.warnings(x), "1:3:8");
        x.see(b, a);
        c.due("pages of what is under it are not its own", Checks.warnings(x), "2:1:2 1:3:8");
    }

    private static void joined(Checks c) {
        Book x = new Book();
        int one = Checks.top(x, "a");
        int two = Checks.top(x, "a");
        int b = Checks.top(x, "b");
        c.due("only the first one is empty", Checks.warnings(x), "3:0:0 3:2:0");
        x.see(b, two);
        c.due("the entry itself is told, not its row", Checks.warnings(x), "3:0:0 2:2:1");
        x.page(two, 1, 4);
        c.due("a page of the same one", Checks.warnings(x), "");
        x.see(b, one);
        c.due("pages of its row", Checks.warnings(x), "");
        x.sign(two, 'x');
        c.due("parted", Checks.warnings(x), "3:0:0 2:2:0");
        Book y = new Book();
        Checks.top(y, "a");
        int again = Checks.top(y, "a");
        int under = Checks.under(y, again, 1, "u");
        c.due("something under the same one", Checks.warnings(y), "3:2:0");
        y.see(again, under);
        c.due("each one tells what it sees", Checks.warnings(y), "2:1:2 3:2:0");
        Book z = new Book();
        Checks.top(z, "a");
        int same = Checks.top(z, "a");
        z.see(same, Checks.top(z, "c"));
        z.page(2, 1, 1);
        c.due("something to see at the same one", Checks.warnings(z), "");
        z.sign(same, 'x');
        c.due("it is at another one now", Checks.warnings(z), "3:0:0");
        y.sign(again, 'x');
        c.due("it is under another one now", Checks.warnings(y), "3:0:0 2:1:2 3:2:0");
    }
}
