/** Promise 7: rule. */
public final class RuleTest {
    public static void main(String[] args) {
        Checks c = new Checks();
        answers(c);
        digits(c);
        words(c);
        c.end();
    }

    private static void answers(Checks c) {
        IndexSort x = new IndexSort();
        c.thrown("rule 2", Checks.ARGUMENT, () -> x.rule(2, true));
        c.thrown("rule -1", Checks.ARGUMENT, () -> x.rule(-1, false));
        for (int which = 0; which < 2; which++) {
            c.due("was on", x.rule(which, true), 1);
            c.due("was on still", x.rule(which, false), 1);
            c.due("was off", x.rule(which, false), 0);
            c.due("was off still", x.rule(which, true), 0);
            c.due("was on again", x.rule(which, false), 1);
        }
    }

    private static void digits(Checks c) {
        IndexSort x = new IndexSort();
        Checks.top(x, "a10");
        Checks.top(x, "a9");
        c.due("DIGITS on", x.compare(0, 1), 1);
        c.due("DIGITS on: rows", Checks.rows(x), "1 0");
        x.rule(0, false);
        c.due("DIGITS off", x.compare(0, 1), -1);
        c.due("DIGITS off: rows", Checks.rows(x), "0 1");
        Checks.top(x, "a1b");
        c.due("DIGITS off: 1 0 before 1 b", x.compare(0, 2), -1);
        x.rule(0, true);
        c.due("DIGITS on again: 10 behind 1", x.compare(0, 2), 1);
        c.due("DIGITS on again: rows", Checks.rows(x), "2 1 0");
    }

    private static void words(Checks c) {
        IndexSort x = new IndexSort();
        Checks.top(x, "ab");
        Checks.top(x, "a c");
        c.due("WORDS on", x.compare(0, 1), 1);
        c.due("WORDS on: rows", Checks.rows(x), "1 0");
        x.rule(1, false);
        c.due("WORDS off", x.compare(0, 1), -1);
        c.due("WORDS off: rows", Checks.rows(x), "0 1");
        Checks.top(x, "1 2");
        Checks.top(x, "12");
        c.due("WORDS off: digits apart are two numbers", x.compare(2, 3), -1);
        x.rule(0, false);
        c.due("both off: by the words alone", x.compare(2, 3), -1);
        Checks.top(x, "1!!1");
        c.due("both off: 1 1 before 1 2", x.compare(4, 2), -1);
    }
}
