/** Promise 15: at. */
public final class AtTest {
    public static void main(String[] args) {
        Checks c = new Checks();
        bytes(c);
        noOut(c);
        ends(c);
        outStays(c);
        c.end();
    }

    private static void bytes(Checks c) {
        c.words("A byte of the out, 0 .. 255.");
        for (int begin = 0; begin < 256; begin += 16) {
            Book x = new Book();
            int e = x.entry(0, -1);
            for (int k = 0; k < 16; k++) {
                x.sign(e, begin + k);
            }
            Checks.style(x, "|%w||");
            c.due("16 bytes", x.print(), 16);
            for (int k = 0; k < 16; k++) {
                c.due("byte " + (begin + k), x.at(k), begin + k);
            }
            c.due("the first one again", x.at(0), begin);
        }
    }

    private static void noOut(Checks c) {
        c.words("ArrayIndexOutOfBoundsException.");
        Book x = Checks.tops("a");
        Checks.style(x, "|%w||");
        for (int i : new int[] {Integer.MIN_VALUE, -1, 0, 1, 5999, 6000, Integer.MAX_VALUE}) {
            c.thrown("no out: at " + i, Checks.ARRAY_INDEX, () -> x.at(i));
        }
        Book y = Checks.tops("a");
        Checks.style(y, "|||");
        c.due("an empty out", y.print(), 0);
        c.thrown("at 0 of it", Checks.ARRAY_INDEX, () -> y.at(0));
        c.thrown("at -1 of it", Checks.ARRAY_INDEX, () -> y.at(-1));
    }

    private static void ends(Checks c) {
        c.words("ArrayIndexOutOfBoundsException.");
        Book x = Checks.tops("abc");
        Checks.style(x, "|%w||");
        x.print();
        c.thrown("before the begin", Checks.ARRAY_INDEX, () -> x.at(-1));
        c.due("the first", x.at(0), 'a');
        c.due("the last", x.at(2), 'c');
        c.thrown("behind the end", Checks.ARRAY_INDEX, () -> x.at(3));
        for (int i : new int[] {Integer.MIN_VALUE, -1000, 4, 5999, 6000, Integer.MAX_VALUE}) {
            c.thrown("at " + i, Checks.ARRAY_INDEX, () -> x.at(i));
        }
    }

    private static void outStays(Checks c) {
        c.words("A byte of the out, 0 .. 255.");
        Book x = Checks.tops("abc");
        Checks.style(x, "|%w||");
        x.print();
        x.sign(0, 'd');
        x.entry(0, -1);
        x.page(0, 1, 1);
        x.rule(0, false);
        x.style(0);
        c.due("till the next one", Checks.outOf(x, 3), "abc");
        c.thrown("as long as it was", Checks.ARRAY_INDEX, () -> x.at(3));
        Checks.style(x, "|%w%w||");
        c.due("the next one", x.print(), 8);
        c.due("its last byte", x.at(7), 'd');
        Checks.style(x, "|%p||");
        c.due("a shorter one", x.print(), 1);
        c.due("its byte", x.at(0), '1');
        c.thrown("nothing of the longer one is left", Checks.ARRAY_INDEX, () -> x.at(1));
    }
}
