/** "Terms": GROUPS. */
public final class TermGroupsTest {
    public static void main(String[] args) {
        Checks c = new Checks();
        ofLevelZero(c);
        withoutKey(c);
        numbers(c);
        breaks(c);
        letters(c);
        c.end();
    }

    /** With all rules, which never change a group, since no key begins with a break. */
    private static void group(Checks c, String words, int due) {
        Book x = Checks.tops(words);
        for (int rules = 0; rules < 4; rules++) {
            x.rule(0, rules % 2 == 0);
            x.rule(1, rules < 2);
            c.due("group of [" + words + "]", x.row(0, 4), due);
        }
    }

    private static void ofLevelZero(Checks c) {
        c.words("GROUPS: that of a row is its row's of level 0:");
        Book x = Checks.tops("Q", "7", "");
        for (int top = 0; top < 3; top++) {
            int one = Checks.under(x, top, 1, "a");
            Checks.under(x, one, 2, "9");
            Checks.under(x, one, 2, "");
            Checks.under(x, top, 1, "4");
        }
        c.due("rows", x.run(), 15);
        for (int i = 0; i < 15; i++) {
            c.due("group of row " + i, x.row(i, 4), i < 5 ? 0 : i < 10 ? 1 : 'q');
        }
        int again = Checks.top(x, "Q");
        Checks.under(x, Checks.under(x, again, 1, "z"), 2, "z");
        c.due("of an entry under one that is joined", x.row(15, 4), 'q');
        c.due("and under that", x.row(16, 4), 'q');
    }

    private static void withoutKey(Checks c) {
        c.words("0 without a key,");
        group(c, "", 0);
        group(c, "-", 0);
        group(c, "\0", 0);
        group(c, "\u00ff", 0);
        group(c, "\u00b0\u00b9", 0);
        group(c, "--------------------", 0);
        group(c, "@[`{/:", 0);
    }

    private static void numbers(Checks c) {
        c.words("1 of a key whose first unit is a number,");
        group(c, "0", 1);
        group(c, "9", 1);
        group(c, "00", 1);
        group(c, "99999999999999999999", 1);
        group(c, "00000000000000000000", 1);
        group(c, "1a", 1);
        group(c, "-1", 1);
        group(c, "-------------------9", 1);
        group(c, "\u00b01", 1);
    }

    private static void breaks(Checks c) {
        c.words("2 a break (never),");
        group(c, " a", 'a');
        group(c, " 1", 1);
        group(c, " ", 0);
        group(c, "- -a", 'a');
    }

    private static void letters(Checks c) {
        c.words("else the letter (97 .. 122).");
        c.due("the first", Checks.tops("a").row(0, 4), 97);
        c.due("the last", Checks.tops("z").row(0, 4), 122);
        for (char letter = 'a'; letter <= 'z'; letter++) {
            for (int sign : new int[] {letter, letter - 32, letter + 128, letter + 96}) {
                group(c, "" + (char) sign, letter);
                group(c, "-" + (char) sign + "1", letter);
            }
        }
        group(c, "-------------------z", 'z');
    }
}
