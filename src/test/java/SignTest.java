/** Promise 3: sign. */
public final class SignTest {
    public static void main(String[] args) {
        Checks c = new Checks();
        IndexSort x = new IndexSort();
        c.thrown("no entry", Checks.NO_ELEMENT, () -> x.sign(0, 'a'));
        c.thrown("no entry before a wrong sign", Checks.NO_ELEMENT, () -> x.sign(0, 256));
        x.entry(0, -1);
        x.entry(0, -1);
        c.thrown("entry -1", Checks.NO_ELEMENT, () -> x.sign(-1, 'a'));
        c.thrown("entry 2", Checks.NO_ELEMENT, () -> x.sign(2, 'a'));
        c.thrown("sign -1", Checks.ARGUMENT, () -> x.sign(0, -1));
        c.thrown("sign 256", Checks.ARGUMENT, () -> x.sign(0, 256));
        c.due("sign 0", x.sign(0, 0), 1);
        c.due("sign 255", x.sign(0, 255), 2);
        for (int k = 3; k <= 20; k++) {
            c.due("sign " + k, x.sign(0, 'a'), k);
        }
        c.thrown("sign 21", Checks.UNSUPPORTED, () -> x.sign(0, 'a'));
        c.thrown("a wrong sign at full words", Checks.ARGUMENT, () -> x.sign(0, 300));
        c.due("the other one's words are its own", x.sign(1, 'b'), 1);

        Checks.style(x, "|%w.||");
        StringBuilder due = new StringBuilder();
        due.append((char) 0).append((char) 255);
        for (int k = 3; k <= 20; k++) {
            due.append('a');
        }
        c.due("words stand behind each other", Checks.printed(x), due + ".b.");

        IndexSort y = new IndexSort();
        Checks.top(y, "b");
        Checks.top(y, "a");
        c.due("before a sign", Checks.rows(y), "1 0");
        y.sign(1, 0 + 'b');
        y.sign(0, 'a');
        y.entry(0, -1);
        y.sign(2, 'a');
        c.due("a sign changes the order at once", Checks.rows(y), "2 1 0");
        y.sign(2, 'b');
        c.due("a sign joins at once", Checks.rows(y), "1 0");
        c.end();
    }
}
