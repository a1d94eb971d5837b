/** Promise 13: style. */
public final class StyleTest {
    public static void main(String[] args) {
        Checks c = new Checks();
        IndexSort x = new IndexSort();
        c.thrown("sign -1", Checks.ARGUMENT, () -> x.style(-1));
        c.thrown("sign 128", Checks.ARGUMENT, () -> x.style(128));
        c.due("gone, when there is none", x.style(0), 0);
        c.due("sign 1", x.style(1), 1);
        c.due("sign 127", x.style(127), 2);
        c.due("gone", x.style(0), 0);
        for (int k = 1; k <= 77; k++) {
            c.due("sign " + k, x.style('x'), k);
        }
        for (int k = 78; k <= 80; k++) {
            c.due("bar " + k, x.style('|'), k);
        }
        c.thrown("sign 81", Checks.UNSUPPORTED, () -> x.style('x'));
        c.thrown("a wrong sign at a full style", Checks.ARGUMENT, () -> x.style(128));
        x.entry(0, -1);
        c.due("all of it is used", x.print(), 77);
        c.due("a full style goes", x.style(0), 0);
        c.due("the out stays", x.at(76), 'x');
        c.due("none is there", x.print(), -1);
        c.due("the next style", x.style('|'), 1);
        c.end();
    }
}
