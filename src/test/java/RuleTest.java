/** Promise 7: rule. */
public final class RuleTest {
    public static void main(String[] args) {
        Checks c = new Checks();
        answers(c);
        digits(c);
        words(c);
        onlyOrder(c);
        refused(c);
        c.end();
    }

    private static void answers(Checks c) {
        c.words("A rule, 0 DIGITS, 1 WORDS, is on, or off: what it was (1, 0).");
        Book x = new Book();
        for (int which = 0; which < 2; which++) {
            c.due("was on", x.rule(which, true), 1);
            c.due("was on still", x.rule(which, false), 1);
            c.due("was off", x.rule(which, false), 0);
            c.due("was off still", x.rule(which, true), 0);
            c.due("was on again", x.rule(which, false), 1);
        }
        c.due("the first one was off all the time", x.rule(0, true), 0);
        c.due("the second one too", x.rule(1, true), 0);
    }

    private static void digits(Checks c) {
        c.words("A rule, 0 DIGITS, 1 WORDS, is on, or off: what it was (1, 0).");
        Book x = Checks.tops("a10", "a9");
        c.due("DIGITS on", x.compare(0, 1), 1);
        c.due("DIGITS on: rows", Checks.rows(x), "1 0");
        x.rule(0, false);
        c.due("DIGITS off", x.compare(0, 1), -1);
        c.due("DIGITS off: rows", Checks.rows(x), "0 1");
        Checks.top(x, "a1b");
        c.due("DIGITS off: 1 0 before 1 b", x.compare(0, 2), -1);
        x.rule(0, true);
        c.due("DIGITS on again: 10 behind 1", x.compare(0, 2), 1);
        c.due("DIGITS on again: rows", Checks.rows(x), "2 1 0");
    }

    private static void words(Checks c) {
        c.words("A rule, 0 DIGITS, 1 WORDS, is on, or off: what it was (1, 0).");
        Book x = Checks.tops("ab", "a c");
        c.due("WORDS on", x.compare(0, 1), 1);
        c.due("WORDS on: rows", Checks.rows(x), "1 0");
        x.rule(1, false);
        c.due("WORDS off", x.compare(0, 1), -1);
        c.due("WORDS off: rows", Checks.rows(x), "0 1");
        Checks.top(x, "1 2");
        Checks.top(x, "12");
        c.due("WORDS off: digits apart are two numbers", x.compare(2, 3), -1);
        x.rule(0, false);
        c.due("both off: by the words alone", x.compare(2, 3), -1);
        Checks.top(x, "1!!1");
        c.due("both off: 1 1 before 1 2", x.compare(4, 2), -1);
        x.rule(1, true);
        c.due("WORDS on again: 1 1 before 1 2 still", x.compare(4, 2), -1);
        c.due("WORDS on again", x.compare(0, 1), 1);
    }

    private static void onlyOrder(Checks c) {
        c.words("A rule, 0 DIGITS, 1 WORDS, is on, or off: what it was (1, 0).");
        Book x = Checks.tops("b 10", "b 9", "b-9");
        Checks.pages(x, 1, 1, 1, 2, 3);
        x.see(1, 0);
        Checks.style(x, "%g|%w %p %s,||");
        c.due("on", Checks.printed(x), "bb 9 1-3 b 10,b-9  ,b 10  ,");
        x.rule(0, false);
        c.due("the out stays", x.at(3), '9');
        c.due("rows by the rule", Checks.rows(x), "0 1 2");
        c.due("a row's locators go with it", Checks.locators(x, 1), "1:1-3");
        c.due("off", Checks.printed(x), "bb 10  ,b 9 1-3 b 10,b-9  ,");
        c.due("words that differ are never the same", x.run(), 3);
    }

    private static void refused(Checks c) {
        c.words("IllegalArgumentException.");
        Book x = Checks.tops("9", "10");
        for (int which : new int[] {Integer.MIN_VALUE, -1, 2, 3, Integer.MAX_VALUE}) {
            c.thrown("rule " + which + " on", Checks.ARGUMENT, () -> x.rule(which, true));
            c.thrown("rule " + which + " off", Checks.ARGUMENT, () -> x.rule(which, false));
        }
        c.due("DIGITS is on", x.rule(0, true), 1);
        c.due("WORDS is on", x.rule(1, true), 1);
        c.due("rows", Checks.rows(x), "0 1");
    }
}
