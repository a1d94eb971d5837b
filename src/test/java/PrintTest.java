/** Promise 14: print; STYLE and THE OUT. */
public final class PrintTest {
    public static void main(String[] args) {
        Checks c = new Checks();
        c.words("THE OUT is made: how many bytes;");
        parts(c);
        marks(c);
        pages(c);
        groups(c);
        outOfNothing(c);
        faults(c);
        faultOfALongOut(c);
        tooLong(c);
        onlyOneTooMany(c);
        byEachMark(c);
        c.end();
    }

    private static void outOfNothing(Checks c) {
        Book x = new Book();
        Checks.style(x, "g|0|1|2");
        c.due("no rows", x.print(), 0);
        x.entry(0, -1);
        c.due("one row", Checks.printed(x), "g0");
        Checks.style(x, "||1|2");
        c.due("parts of rows that there are not", x.print(), 0);
        c.thrown("the out is empty again", Checks.ARRAY_INDEX, () -> x.at(0));
    }

    private static void faults(Checks c) {
        c.words("-1 minus the place of the style's first fault, and the out stays;");
        String[] styles = {"", "abc", "|", "||", "|||", "||||", "|||||", "%", "|||%", "||%", "%x|||", "%|||", "%%|||", "%%%|||",
            "a%", "|%w|%p|%s%g%n%%", "|%w|%p|%s%g%n%%%", "||||%", "%W|||", "|||a|", "%%%%|||%w|", "%0", "|%%w||", "%n%"};
        int[] due = {0, 3, 1, 2, -1, 3, 3, 0, 3, 2, 0, 0, -1, 2, 1, -1, 15, 3, 0, 4, 9, 0, -1, 2};
        for (int k = 0; k < styles.length; k++) {
            Book x = new Book();
            Checks.style(x, styles[k]);
            c.due("print by [" + styles[k] + "]", x.print(), due[k] < 0 ? 0 : -1 - due[k]);
        }
        Book y = new Book();
        Checks.style(y, "|||%w");
        Checks.style(y, "|||%");
        c.due("nothing is left of a style that is gone", y.print(), -4);
        Book x = Checks.tops("abc");
        Checks.style(x, "|%w||");
        c.due("without a fault", x.print(), 3);
        x.style('|');
        c.due("with a fault", x.print(), -6);
        c.due("the out stays", Checks.outOf(x, 3), "abc");
        c.thrown("and is no longer", Checks.ARRAY_INDEX, () -> x.at(3));
        Book z = Checks.tops("abc");
        Checks.style(z, "|%w|");
        c.due("a fault before any out", z.print(), -5);
        c.thrown("there is none still", Checks.ARRAY_INDEX, () -> z.at(0));
    }

    /** The out of a style with a fault is not made, so that it is never too long. */
    private static void faultOfALongOut(Checks c) {
        c.words("-1 minus the place of the style's first fault, and the out stays;");
        Book x = longRows(40);
        Checks.style(x, "|" + "%p".repeat(38) + "||");
        c.thrown("too long", Checks.UNSUPPORTED, () -> x.print());
        Checks.style(x, "|" + "%p".repeat(38) + "||%");
        c.due("with a fault", x.print(), -80);
        Checks.style(x, "|" + "%p".repeat(38) + "|||");
        c.due("with another one", x.print(), -80);
        c.thrown("there is no out", Checks.ARRAY_INDEX, () -> x.at(0));
    }

    private static void parts(Checks c) {
        Book x = new Book();
        int b = Checks.top(x, "b");
        int s = Checks.under(x, b, 1, "s");
        Checks.under(x, s, 2, "t");
        Checks.under(x, b, 1, "r");
        Checks.top(x, "a");
        Checks.style(x, "[%g]|0%w|1%w|2%w");
        c.due("each row by its level", Checks.printed(x), "[a]0a[b]0b1r1s2t");
        Checks.style(x, "G|x|y|z");
        c.due("signs", Checks.printed(x), "GxGxyyz");
        Checks.style(x, "|||");
        c.due("empty parts", x.print(), 0);
        c.thrown("an empty out", Checks.ARRAY_INDEX, () -> x.at(0));
    }

    private static void marks(Checks c) {
        Book x = new Book();
        int a = Checks.top(x, "a%w|");
        int b = Checks.top(x, "b\u00e9");
        x.page(a, 1, 7);
        x.see(a, b);
        x.see(b, a);
        Checks.style(x, "<%w%p%s%g%n%%>|%w,%p,%s,%g,%n,%%.||");
        c.due("all marks", Checks.printed(x), "<a\n%>a%w|,7,b\u00e9,a,\n,%.<b\n%>b\u00e9,,a%w|,b,\n,%.");
        Checks.style(x, "|%%w%ww||");
        c.due("marks next to signs", Checks.printed(x), "%wa%w|w%wb\u00e9w");

        Book y = new Book();
        for (String words : new String[] {"m", "m", "c", "b", "a", "b"}) {
            Checks.top(y, words);
        }
        y.see(1, 5);
        y.see(1, 2);
        y.see(0, 4);
        y.see(0, 3);
        Checks.style(y, "|%s||");
        c.due("each row once, by entries, in the order told", Checks.printed(y), "a; b; c");
    }

    private static void pages(Checks c) {
        Book x = new Book();
        int a = Checks.top(x, "a");
        Checks.pages(x, a, 0, 1, 2, 3, 5, 8, 1888, 3999);
        Checks.pages(x, a, 1, 1, 10, 909, 90000, 99999);
        Checks.pages(x, a, 2, 25, 26, 27, 29, 702);
        Checks.range(x, a, 700, 701);
        Checks.range(x, a, 800, 800);
        Checks.style(x, "|%p||");
        c.due("pages", Checks.printed(x), "i-iii, v, viii, mdccclxxxviii, mmmcmxcix, 1, 10, 700-701, 800, 909, 90000, 99999, y-aa, ac, zz");
        for (int n = 1; n <= 3999; n += 15) {
            Book y = new Book();
            StringBuilder due = new StringBuilder();
            int e = y.entry(0, -1);
            for (int k = n; k < n + 15 && k <= 3999; k += 2) {
                y.page(e, 0, k);
                due.append(k > n ? ", " : "").append(roman(k));
            }
            Checks.style(y, "|%p||");
            c.due("Roman numbers from " + n, Checks.printed(y), due.toString());
        }
        for (int n = 1; n <= 702; n++) {
            Book y = new Book();
            y.page(y.entry(0, -1), 2, n);
            Checks.style(y, "|%p||");
            String due = n <= 26 ? "" + (char) (96 + n) : "" + (char) (96 + (n - 1) / 26) + (char) (97 + (n - 1) % 26);
            c.due("letters of " + n, Checks.printed(y), due);
        }
    }

    private static String roman(int n) {
        String[] signs = {"m", "cm", "d", "cd", "c", "xc", "l", "xl", "x", "ix", "v", "iv", "i"};
        int[] values = {1000, 900, 500, 400, 100, 90, 50, 40, 10, 9, 5, 4, 1};
        StringBuilder text = new StringBuilder();
        int left = n;
        for (int k = 0; k < values.length; k++) {
            while (left >= values[k]) {
                text.append(signs[k]);
                left -= values[k];
            }
        }
        return text.toString();
    }

    private static void groups(Checks c) {
        Book x = new Book();
        for (String words : new String[] {"b", "A", "7", "a2", "B1", "-", "", "10", "c"}) {
            Checks.top(x, words);
        }
        Checks.under(x, 0, 1, "q");
        Checks.style(x, "{%g}|%w.|%g%w.|");
        c.due("a group once, before its first row", Checks.printed(x), "{0}.-.{1}7.10.{a}A.a2.{b}b.bq.B1.{c}c.");
    }

    private static void tooLong(Checks c) {
        c.words("UnsupportedOperationException when it would have more than 6,000.");
        Book x = new Book();
        for (int k = 0; k < 79; k++) {
            Checks.top(x, "" + (char) ('a' + k / 26) + (char) ('a' + k % 26));
        }
        Checks.style(x, "|" + "x".repeat(75) + "||");
        c.due("79 rows of 75", x.print(), 5925);
        int last = x.entry(0, -1);
        c.due("80 rows of 75 are the most", x.print(), 6000);
        c.due("the last byte", x.at(5999), 'x');
        Checks.style(x, "|" + "y".repeat(74) + "%w||");
        c.thrown("more than 6000", Checks.UNSUPPORTED, () -> x.print());
        c.due("the out stays", x.at(0), 'x');
        c.due("the out stays to its end", x.at(5999), 'x');
        c.thrown("behind its end", Checks.ARRAY_INDEX, () -> x.at(6000));
        Checks.style(x, "|%w||");
        c.due("a short one", x.print(), 158);
        c.due("is another one", x.at(0), 'a');
        c.thrown("nothing of the old one is left", Checks.ARRAY_INDEX, () -> x.at(158));
        c.due("the last one has no words", x.sign(last, 'z'), 1);
    }

    private static void onlyOneTooMany(Checks c) {
        c.words("UnsupportedOperationException when it would have more than 6,000.");
        Book x = new Book();
        for (int k = 0; k < 80; k++) {
            x.sign(x.entry(0, -1), k < 26 ? 'a' + k : k < 52 ? 'A' + k - 26 : 150 + k);
        }
        Checks.style(x, "|" + "x".repeat(73) + "%w%p||");
        c.due("80 rows of 74", x.print(), 5920);
        for (int k = 0; k < 20; k++) {
            x.page(k, 1, 1000 + k);
        }
        c.due("6000 bytes", x.print(), 6000);
        x.page(77, 2, 1);
        c.thrown("6001 bytes", Checks.UNSUPPORTED, () -> x.print());
        c.thrown("the out stays", Checks.ARRAY_INDEX, () -> x.at(6000));
    }

    /** Rows without a key, so that there is one group, each with a range that is written by 11 bytes. */
    private static Book longRows(int rows) {
        Book x = new Book();
        for (int k = 0; k < rows; k++) {
            x.sign(x.entry(0, -1), k < 32 ? k : 96 + k);
            Checks.range(x, k, 11111 + k, 99999);
        }
        return x;
    }

    private static void byEachMark(Checks c) {
        c.words("UnsupportedOperationException when it would have more than 6,000.");
        String eighty = "%p%p%p%p%p%p%pabc";
        for (String last : new String[] {"x", "%w", "%g", "%n", "%%"}) {
            Book x = longRows(74);
            Checks.style(x, "GGGGGG|" + eighty + last + "||");
            c.due("6000 bytes, the last by " + last, x.print(), 6000);
            int end = x.at(5999);
            Checks.style(x, "OOOOOO%" + "%|" + eighty + last + "||");
            c.thrown("one more in the part of groups", Checks.UNSUPPORTED, () -> x.print());
            c.due("the out stays", x.at(0), 'G');
            c.due("to its end", x.at(5999), end);
        }
        Book y = longRows(74);
        Checks.style(y, "GGGGG|" + eighty + "%w||");
        c.due("one less", y.print(), 5999);
        int top = 73;
        y.see(top, 0);
        Checks.style(y, "GGGGG|" + eighty + "%w%s||");
        c.due("6000 bytes, one of them by %s", y.print(), 6000);
        y.sign(0, 0);
        c.thrown("6001 by a row without a key, or by what is to see", Checks.UNSUPPORTED, () -> y.print());
        Checks.under(y, top, 1, "u");
        Checks.style(y, "GGGG|" + eighty + "%w||");
        c.due("a row's sign more than before", y.print(), 5999);
        Checks.style(y, "GGGG|" + eighty + "%w|x|");
        c.due("6000 by the part of level 1", y.print(), 6000);
        Checks.style(y, "GGGG|" + eighty + "%w|xx|");
        c.thrown("6001 by the part of level 1", Checks.UNSUPPORTED, () -> y.print());
    }
}
