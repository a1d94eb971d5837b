/** Promise 3: sign. */
public final class SignTest {
    public static void main(String[] args) {
        Checks c = new Checks();
        behind(c);
        atOnce(c);
        refused(c);
        full(c);
        c.end();
    }

    private static void behind(Checks c) {
        c.words("A sign behind an entry's words: how many they have.");
        Book x = new Book();
        x.entry(0, -1);
        x.entry(0, -1);
        x.entry(1, 0);
        StringBuilder due = new StringBuilder();
        for (int k = 1; k <= 20; k++) {
            c.due("sign " + k, x.sign(0, k == 1 ? 0 : k == 2 ? 255 : 'a' + k), k);
            due.append((char) (k == 1 ? 0 : k == 2 ? 255 : 'a' + k));
        }
        c.due("the other one's words are its own", x.sign(1, 'x'), 1);
        c.due("those of one under it too", x.sign(2, 'y'), 1);
        c.due("the next one", x.sign(2, 'y'), 2);
        Checks.style(x, "|%w.|%w.|");
        c.due("words stand behind each other", Checks.printed(x), due + ".yy.x.");
    }

    private static void atOnce(Checks c) {
        c.words("A sign behind an entry's words: how many they have.");
        Book x = Checks.tops("b", "a");
        c.due("before a sign", Checks.rows(x), "1 0");
        x.sign(1, 'b');
        x.sign(0, 'a');
        x.entry(0, -1);
        x.sign(2, 'a');
        c.due("a sign changes the order at once", Checks.rows(x), "2 1 0");
        x.sign(2, 'b');
        c.due("a sign joins at once", Checks.rows(x), "1 0");
        x.sign(1, '0');
        c.due("and parts at once", Checks.rows(x), "2 1 0");
        Book y = Checks.tops("a1", "a2");
        c.due("1 before 2", y.compare(0, 1), -1);
        y.sign(0, '0');
        c.due("10 behind 2", y.compare(0, 1), 1);
        y.rule(0, false);
        c.due("1, 0 before 2", y.compare(0, 1), -1);
        y.sign(1, '0');
        y.rule(0, true);
        c.due("10 before 20", y.compare(0, 1), -1);
    }

    private static void refused(Checks c) {
        c.words("NoSuchElementException; IllegalArgumentException; UnsupportedOperationException when they have 20.");
        Book x = new Book();
        c.thrown("no entry", Checks.NO_ELEMENT, () -> x.sign(0, 'a'));
        c.thrown("no entry and a wrong sign", Checks.NO_ELEMENT, () -> x.sign(0, 256));
        x.entry(0, -1);
        c.thrown("entry -1", Checks.NO_ELEMENT, () -> x.sign(-1, 'a'));
        c.thrown("entry 1", Checks.NO_ELEMENT, () -> x.sign(1, 'a'));
        c.thrown("sign -1", Checks.ARGUMENT, () -> x.sign(0, -1));
        c.thrown("sign 256", Checks.ARGUMENT, () -> x.sign(0, 256));
        c.thrown("sign 256 + a", Checks.ARGUMENT, () -> x.sign(0, 256 + 'a'));
        c.thrown("the least sign", Checks.ARGUMENT, () -> x.sign(0, Integer.MIN_VALUE));
        c.thrown("the greatest sign", Checks.ARGUMENT, () -> x.sign(0, Integer.MAX_VALUE));
        c.due("sign 0", x.sign(0, 0), 1);
        c.due("sign 255", x.sign(0, 255), 2);
    }

    private static void full(Checks c) {
        c.words("NoSuchElementException; IllegalArgumentException; UnsupportedOperationException when they have 20.");
        Book x = Checks.tops("abcdefghijklmnopqrs", "");
        c.due("the 20th", x.sign(0, 't'), 20);
        c.thrown("the 21st", Checks.UNSUPPORTED, () -> x.sign(0, 'u'));
        c.thrown("sign -1 at full words", Checks.ARGUMENT, () -> x.sign(0, -1));
        c.thrown("sign 256 at full words", Checks.ARGUMENT, () -> x.sign(0, 256));
        c.due("others are not full", x.sign(1, 'u'), 1);
    }
}
