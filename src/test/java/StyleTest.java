/** Promise 13: style. */
public final class StyleTest {
    public static void main(String[] args) {
        Checks c = new Checks();
        behind(c);
        gone(c);
        howMany(c);
        refused(c);
        full(c);
        c.end();
    }

    private static void behind(Checks c) {
        c.words("A sign 1 .. 127 behind the style;");
        Book x = Checks.tops("a");
        c.due("sign 1", x.style(1), 1);
        c.due("sign 127", x.style(127), 2);
        for (int k = 0; k < 3; k++) {
            x.style('|');
        }
        c.due("as told", Checks.printed(x), "\u0001\u007f");
        Book y = new Book();
        for (int sign = 1; sign < 81; sign++) {
            c.due("sign " + sign, y.style(sign), sign);
        }
        Book z = new Book();
        for (int sign = 81; sign < 128; sign++) {
            c.due("sign " + sign, z.style(sign), sign - 80);
        }
    }

    private static void gone(Checks c) {
        c.words("0: the style is gone:");
        Book x = Checks.tops("a");
        c.due("when there is none", x.style(0), 0);
        x.style('x');
        c.due("when there is one", x.style(0), 0);
        c.due("again", x.style(0), 0);
        c.due("none is there", x.print(), -1);
        Checks.style(x, "|%w||");
        c.due("the next one", x.print(), 1);
        x.style(0);
        c.due("the out stays", x.at(0), 'a');
        c.due("the next style is the first sign's", x.style('|'), 1);
        c.due("nothing is left of the old one", x.print(), -2);
    }

    private static void howMany(Checks c) {
        c.words("how many it has.");
        Book x = new Book();
        for (int k = 1; k <= 80; k++) {
            c.due("sign " + k, x.style(k % 2 == 0 ? '%' : '|'), k);
        }
        c.due("gone", x.style(0), 0);
        c.due("one", x.style('|'), 1);
    }

    private static void refused(Checks c) {
        c.words("IllegalArgumentException; UnsupportedOperationException when it has 80.");
        Book x = new Book();
        for (int sign : new int[] {Integer.MIN_VALUE, -128, -1, 128, 129, 255, 256, Integer.MAX_VALUE}) {
            c.thrown("sign " + sign, Checks.ARGUMENT, () -> x.style(sign));
        }
        c.due("sign 1", x.style(1), 1);
        c.due("sign 127", x.style(127), 2);
        c.thrown("sign 128 behind them", Checks.ARGUMENT, () -> x.style(128));
        c.due("the third", x.style('|'), 3);
    }

    private static void full(Checks c) {
        c.words("IllegalArgumentException; UnsupportedOperationException when it has 80.");
        Book x = Checks.tops("a");
        Checks.style(x, "|" + "x".repeat(76) + "|");
        c.due("the third bar is the 79th sign", x.style('|'), 79);
        c.due("79 signs are used", x.print(), 76);
        c.due("the 80th", x.style('z'), 80);
        c.thrown("the 81st", Checks.UNSUPPORTED, () -> x.style('x'));
        c.thrown("the 81st, sign 1", Checks.UNSUPPORTED, () -> x.style(1));
        c.thrown("sign 128 at a full style", Checks.ARGUMENT, () -> x.style(128));
        c.thrown("sign -1 at a full style", Checks.ARGUMENT, () -> x.style(-1));
        c.due("80 signs are used", x.print(), 76);
        c.due("a full style goes", x.style(0), 0);
        c.due("the next one", x.style('|'), 1);
    }
}
