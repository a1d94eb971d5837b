/** "Terms": ENTRIES, their LEVEL, their WORDS, and what a SIGN is. */
public final class TermEntriesTest {
    private static final int[] FAR = {Integer.MIN_VALUE, Integer.MIN_VALUE + 1, -1000, 1000, Integer.MAX_VALUE - 1, Integer.MAX_VALUE};

    public static void main(String[] args) {
        Checks c = new Checks();
        numbers(c);
        fullAtEachLevel(c);
        levels(c);
        levelBefore(c);
        signs(c);
        twentySigns(c);
        marked(c);
        letters(c);
        digits(c);
        everySign(c);
        c.end();
    }

    private static void numbers(Checks c) {
        c.words("ENTRIES 0, 1, .. (80 at most)");
        Book x = new Book();
        for (int k = 0; k < 79; k++) {
            c.due("entry", x.entry(0, -1), k);
            x.sign(k, 'a' + k % 26);
            x.sign(k, 'a' + k / 26);
        }
        c.due("79 rows", x.run(), 79);
        c.due("the 80th", x.entry(0, -1), 79);
        c.due("80 rows", x.run(), 80);
        c.thrown("the 81st", Checks.UNSUPPORTED, () -> x.entry(0, -1));
        c.thrown("the 81st again", Checks.UNSUPPORTED, () -> x.entry(0, -1));
        c.due("80 rows still", x.run(), 80);
        c.due("the last one is an entry", x.compare(79, 79), 0);
        c.thrown("behind the last one there is none", Checks.NO_ELEMENT, () -> x.compare(80, 80));
    }

    private static void fullAtEachLevel(Checks c) {
        c.words("ENTRIES 0, 1, .. (80 at most)");
        Book x = new Book();
        x.entry(0, -1);
        x.entry(1, 0);
        for (int k = 2; k < 80; k++) {
            c.due("entry of level 2", x.entry(2, 1), k);
        }
        c.thrown("one more of level 0", Checks.UNSUPPORTED, () -> x.entry(0, -1));
        c.thrown("one more of level 1", Checks.UNSUPPORTED, () -> x.entry(1, 0));
        c.thrown("one more of level 2", Checks.UNSUPPORTED, () -> x.entry(2, 1));
        c.due("joined ones count among the 80", x.run(), 3);
    }

    private static void levels(Checks c) {
        c.words("have a LEVEL 0, 1, 2;");
        Book x = new Book();
        c.thrown("level -1", Checks.ARGUMENT, () -> x.entry(-1, -1));
        c.due("level 0", x.entry(0, -1), 0);
        c.due("level 1", x.entry(1, 0), 1);
        c.due("level 2", x.entry(2, 1), 2);
        c.thrown("level 3", Checks.ARGUMENT, () -> x.entry(3, 2));
        c.thrown("level -1 under one", Checks.ARGUMENT, () -> x.entry(-1, 0));
        for (int level : FAR) {
            for (int above = -1; above < 3; above++) {
                int under = above;
                c.thrown("level " + level + " under " + above, Checks.ARGUMENT, () -> x.entry(level, under));
            }
        }
        for (int i = 0; i < 3; i++) {
            c.due("level of row " + i, x.row(i, 1), i);
        }
    }

    private static void levelBefore(Checks c) {
        c.words("those of level 1 and 2 are under one of the level before.");
        for (int level = 0; level < 3; level++) {
            for (int above = -1; above < 3; above++) {
                Book x = new Book();
                x.entry(0, -1);
                x.entry(1, 0);
                x.entry(2, 1);
                int ofLevel = level;
                int under = above;
                String what = "level " + level + " under " + (above < 0 ? "none" : "one of level " + above);
                if (above == level - 1) {
                    c.due(what, x.entry(level, above), 3);
                } else {
                    c.thrown(what, Checks.ARGUMENT, () -> x.entry(ofLevel, under));
                    c.due("none was made", x.entry(0, -1), 3);
                }
            }
        }
    }

    private static void signs(Checks c) {
        c.words("Their WORDS are SIGNS 0 .. 255 (20 at most);");
        Book x = new Book();
        x.entry(0, -1);
        c.thrown("sign -1", Checks.ARGUMENT, () -> x.sign(0, -1));
        c.due("sign 0", x.sign(0, 0), 1);
        c.due("sign 1", x.sign(0, 1), 2);
        c.due("sign 254", x.sign(0, 254), 3);
        c.due("sign 255", x.sign(0, 255), 4);
        c.thrown("sign 256", Checks.ARGUMENT, () -> x.sign(0, 256));
        for (int sign : FAR) {
            c.thrown("sign " + sign, Checks.ARGUMENT, () -> x.sign(0, sign));
        }
        Checks.style(x, "|%w||");
        c.due("what was taken", Checks.printed(x), "\0\u0001\u00fe\u00ff");
    }

    private static void twentySigns(Checks c) {
        c.words("Their WORDS are SIGNS 0 .. 255 (20 at most);");
        Book x = Checks.tops("abcdefghijklmnopqrs", "abcdefghijklmnopqrst");
        c.due("19 and 20 signs differ", x.compare(0, 1), -1);
        c.thrown("the 21st", Checks.UNSUPPORTED, () -> x.sign(1, 'u'));
        c.thrown("the 21st, sign 0", Checks.UNSUPPORTED, () -> x.sign(1, 0));
        c.due("the 20th", x.sign(0, 't'), 20);
        c.due("the same words", x.compare(0, 1), 0);
        c.thrown("the 21st of the other one", Checks.UNSUPPORTED, () -> x.sign(0, 't'));
        Checks.style(x, "|%w||");
        c.due("all 20 of them", Checks.printed(x), "abcdefghijklmnopqrst");
    }

    private static void marked(Checks c) {
        c.words("a sign of 128 or more is that less 128, MARKED.");
        Book x = Checks.tops("\u0000", "\u0001", "\u007e", "\u007f", "\u0080", "\u0081", "\u00fe", "\u00ff");
        c.due("128 is 0, marked", x.compare(0, 4), -1);
        c.due("which is before 1", x.compare(4, 1), -1);
        c.due("127 is not marked: it is far behind", x.compare(3, 4), 1);
        c.due("129 is 1, marked", x.compare(1, 5), -1);
        c.due("254 is 126, marked", x.compare(2, 6), -1);
        c.due("which is before 127", x.compare(6, 3), -1);
        c.due("255 is 127, marked", x.compare(3, 7), -1);
        c.due("all in order", Checks.rows(x), "0 4 1 5 2 6 3 7");
    }

    private static int groupOf(int sign) {
        Book x = new Book();
        x.sign(x.entry(0, -1), sign);
        return x.row(0, 4);
    }

    private static void letters(Checks c) {
        c.words("LETTERS are a .. z and A .. Z, marked or not;");
        for (int mark = 0; mark <= 128; mark += 128) {
            c.due("before A", groupOf(mark + '@'), 0);
            c.due("A", groupOf(mark + 'A'), 'a');
            c.due("Z", groupOf(mark + 'Z'), 'z');
            c.due("behind Z", groupOf(mark + '['), 0);
            c.due("before a", groupOf(mark + '`'), 0);
            c.due("a", groupOf(mark + 'a'), 'a');
            c.due("z", groupOf(mark + 'z'), 'z');
            c.due("behind z", groupOf(mark + '{'), 0);
        }
    }

    private static void digits(Checks c) {
        c.words("DIGITS 0 .. 9, not marked.");
        c.due("before 0", groupOf('/'), 0);
        c.due("0", groupOf('0'), 1);
        c.due("9", groupOf('9'), 1);
        c.due("behind 9", groupOf(':'), 0);
        c.due("0 marked", groupOf(128 + '0'), 0);
        c.due("9 marked", groupOf(128 + '9'), 0);
    }

    private static void everySign(Checks c) {
        c.words("a sign of 128 or more is that less 128, MARKED.");
        String lettersAndDigits = "0123456789abcdefghijklmnopqrstuvwxyzABCDEFGHIJKLMNOPQRSTUVWXYZ";
        for (int sign = 0; sign < 256; sign++) {
            int found = lettersAndDigits.indexOf(sign % 128);
            int group = found < 0 ? 0 : found < 10 ? (sign < 128 ? 1 : 0) : 'a' + (found - 10) % 26;
            c.due("group of sign " + sign, groupOf(sign), group);
            Book x = new Book();
            x.sign(x.entry(0, -1), sign);
            Checks.style(x, "|%w||");
            c.due("one byte of sign " + sign, x.print(), 1);
            c.due("the byte of sign " + sign, x.at(0), sign);
        }
    }
}
