/** Promise 15: at. */
public final class AtTest {
    public static void main(String[] args) {
        Checks c = new Checks();
        IndexSort x = new IndexSort();
        for (int i : new int[] {0, -1, 1, Integer.MIN_VALUE, Integer.MAX_VALUE}) {
            c.thrown("no out: at " + i, Checks.ARRAY_INDEX, () -> x.at(i));
        }
        int e = x.entry(0, -1);
        for (int sign : new int[] {0, 127, 128, 255}) {
            x.sign(e, sign);
        }
        Checks.style(x, "|%w||");
        c.thrown("not printed yet", Checks.ARRAY_INDEX, () -> x.at(0));
        c.due("print", x.print(), 4);
        c.due("byte 0", x.at(0), 0);
        c.due("byte 127", x.at(1), 127);
        c.due("byte 128", x.at(2), 128);
        c.due("byte 255", x.at(3), 255);
        c.thrown("behind the end", Checks.ARRAY_INDEX, () -> x.at(4));
        c.thrown("before the begin", Checks.ARRAY_INDEX, () -> x.at(-1));
        x.sign(e, 'a');
        x.style(0);
        c.due("the out stays till the next one", x.at(3), 255);
        c.thrown("as long as it was", Checks.ARRAY_INDEX, () -> x.at(4));
        c.end();
    }
}
