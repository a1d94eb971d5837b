/** "Terms": A STYLE, its parts, its marks and its faults. */
public final class TermStyleTest {
    private static final String MARKS = "wpsgn%";

    public static void main(String[] args) {
        Checks c = new Checks();
        fourParts(c);
        everySign(c);
        words(c);
        locators(c);
        allToSee(c);
        groups(c);
        newLineAndPercent(c);
        wrongMarks(c);
        marksAtTheEnd(c);
        fourthBar(c);
        tooFewBars(c);
        c.end();
    }

    /** An index with a row of each level: t, under it u, under that v. */
    private static Book three() {
        Book x = Checks.tops("t");
        Checks.under(x, Checks.under(x, 0, 1, "u"), 2, "v");
        return x;
    }

    private static String printed(Book x, String style) {
        Checks.style(x, style);
        return Checks.printed(x);
    }

    private static void fault(Checks c, String style, int place) {
        Book x = Checks.tops("a");
        Checks.style(x, "|OLD||");
        x.print();
        Checks.style(x, style);
        c.due("print by [" + style + "]", x.print(), -1 - place);
        c.due("the out stays", Checks.outOf(x, 3), "OLD");
        c.thrown("as long as it was", Checks.ARRAY_INDEX, () -> x.at(3));
    }

    private static void fourParts(Checks c) {
        c.words("A STYLE has four parts, parted by |: of groups, of rows of levels 0, 1, 2.");
        c.due("each its own", printed(three(), "G|0|1|2"), "G012");
        c.due("the first alone", printed(three(), "G|||"), "G");
        c.due("the second alone", printed(three(), "|0||"), "0");
        c.due("the third alone", printed(three(), "||1|"), "1");
        c.due("the fourth alone", printed(three(), "|||2"), "2");
        c.due("all empty", printed(three(), "|||"), "");
        String full = "g".repeat(20) + "|" + "0".repeat(19) + "|" + "1".repeat(19) + "|" + "2".repeat(19);
        c.due("80 signs", printed(three(), full), full.replace("|", ""));
        c.due("the fourth part is the longest", printed(three(), "|||" + "2".repeat(77)), "2".repeat(77));
    }

    private static void everySign(Checks c) {
        c.words("A STYLE has four parts, parted by |: of groups, of rows of levels 0, 1, 2.");
        for (char sign = 1; sign < 128; sign++) {
            if (sign != '%' && sign != '|') {
                c.due("sign " + (int) sign + " is itself", printed(three(), sign + "|" + sign + "|" + sign + "|" + sign), ("" + sign).repeat(4));
            }
        }
    }

    private static void words(Checks c) {
        c.words("In them %w stands for the words,");
        c.due("of each level", printed(three(), "|%w|%w|%w"), "tuv");
        c.due("twice", printed(three(), "|%w%w||"), "tt");
        c.due("no words", printed(Checks.tops(""), "|<%w>||"), "<>");
        c.due("20 signs", printed(Checks.tops("%w|abcdefghijklmn\0\u0080\u00ff"), "|%w||"), "%w|abcdefghijklmn\0\u0080\u00ff");
    }

    private static void locators(Checks c) {
        c.words("%p for the locators (\", \" between them, - between from and to),");
        c.due("none", printed(Checks.tops("a"), "|<%p>||"), "<>");
        Book x = Checks.tops("a");
        x.page(0, 1, 5);
        c.due("one", printed(x, "|<%p>||"), "<5>");
        x.page(0, 0, 4);
        c.due("two", printed(x, "|<%p>||"), "<iv, 5>");
        Checks.pages(x, 0, 1, 6);
        c.due("two next to each other", printed(x, "|<%p>||"), "<iv, 5, 6>");
        Checks.pages(x, 0, 1, 7);
        c.due("from and to", printed(x, "|<%p>||"), "<iv, 5-7>");
        Checks.pages(x, 0, 2, 26, 27, 28);
        Checks.pages(x, 0, 0, 3, 2);
        c.due("of each kind", printed(x, "|<%p>||"), "<ii-iv, 5-7, z-ab>");
        Checks.range(x, 0, 9, 10);
        c.due("a told range", printed(x, "|<%p>||"), "<ii-iv, 5-7, 9-10, z-ab>");
        Checks.range(x, 0, 99999, 99999);
        c.due("a told range of one page: it has no to", printed(x, "|<%p>||"), "<ii-iv, 5-7, 9-10, 99999, z-ab>");
        x.range(0, 50, false);
        c.due("a range that is not ended", printed(x, "|<%p>||"), "<ii-iv, 5-7, 9-10, 50, 99999, z-ab>");
        Book y = three();
        y.page(2, 1, 1);
        c.due("at the last level, and at no other", printed(y, "|%p.|%p.|%p."), "..1.");
    }

    private static void allToSee(Checks c) {
        c.words("%s for the words of all to see (\"; \" between them; each row once, by entries, of each in the order told),");
        c.due("none", printed(Checks.tops("a"), "|<%s>||"), "<>");
        Book x = Checks.tops("a", "b", "c", "b", "a", "");
        x.see(4, 2);
        c.due("one", printed(x, "|<%s>||"), "<><c><><>");
        x.see(0, 3);
        c.due("two, by entries", printed(x, "|<%s>||"), "<><b; c><><>");
        x.see(0, 1);
        c.due("its row once", printed(x, "|<%s>||"), "<><b; c><><>");
        x.see(4, 1);
        x.see(0, 2);
        c.due("once, where it comes first", printed(x, "|<%s>||"), "<><b; c><><>");
        x.see(0, 5);
        c.due("one without words", printed(x, "|<%s>||"), "<><b; c; ><><>");
        x.see(4, 0);
        c.due("the row itself, by another entry of it", printed(x, "|<%s>||"), "<><b; c; ; a><><>");
        Book y = three();
        y.see(2, 0);
        y.see(1, 2);
        c.due("of each level", printed(y, "|%s.|%s.|%s."), ".v.t.");
    }

    private static void groups(Checks c) {
        c.words("%g for the group (0, 1, or its letter),");
        c.due("group 0", printed(Checks.tops("-"), "%g|%g||"), "00");
        c.due("group 1", printed(Checks.tops("42"), "%g|%g||"), "11");
        c.due("group a", printed(Checks.tops("A"), "%g|%g||"), "aa");
        c.due("group z", printed(Checks.tops("\u00dang"), "%g|%g||"), "zz");
        c.due("of each level that of level 0", printed(three(), "%g|%g|%g|%g"), "tttt");
    }

    private static void newLineAndPercent(Checks c) {
        c.words("%n for a byte 10, %% for %.");
        c.due("in each part", printed(three(), "%n%%|%%%n|%n%n|%%%%"), "\n%%\n\n\n%%");
        c.due("what stands behind %% is itself", printed(three(), "%%w|%%n||"), "%w%n");
        c.due("an even number of %", printed(three(), "%%%%%%|||"), "%%%");
        Book x = three();
        Checks.style(x, "|%n||");
        x.print();
        c.due("byte 10", x.at(0), 10);
        c.due("sign 10 is the same byte", printed(three(), "|\n||"), "\n");
    }

    private static void wrongMarks(Checks c) {
        c.words("Faults: % before another sign, or at the end, at that %;");
        for (char sign = 1; sign < 128; sign++) {
            if (MARKS.indexOf(sign) < 0) {
                fault(c, "%" + sign + "|||", 0);
                fault(c, "a||%n|%%%" + sign, 8);
            } else {
                Book x = Checks.tops("a");
                c.due("mark " + sign, printed(x, "%" + sign + "|||").startsWith("fault") ? 1 : 0, 0);
            }
        }
        fault(c, "%W|||", 0);
        fault(c, "%%%|||", 2);
        fault(c, "%|||", 0);
        fault(c, "|%|||", 1);
        fault(c, "%x%y", 0);
        fault(c, "|%x||%y|", 1);
    }

    private static void marksAtTheEnd(Checks c) {
        c.words("Faults: % before another sign, or at the end, at that %;");
        fault(c, "%", 0);
        fault(c, "|||%", 3);
        fault(c, "||%", 2);
        fault(c, "|||%%%", 5);
        fault(c, "|||" + "a".repeat(76) + "%", 79);
        fault(c, "%".repeat(79), 78);
        fault(c, "|||" + "%".repeat(77), 79);
        fault(c, "%".repeat(80), 80);
        c.due("no fault at place 79", printed(three(), "|||" + "a".repeat(75) + "%%"), "a".repeat(75) + "%");
        Book x = three();
        Checks.style(x, "|||%");
        c.due("a fault", x.print(), -4);
        x.style('w');
        c.due("mended by the next sign", Checks.printed(x), "v");
    }

    private static void fourthBar(Checks c) {
        c.words("a fourth | at it;");
        fault(c, "||||", 3);
        fault(c, "|||||", 3);
        fault(c, "|||a|", 4);
        fault(c, "a|b|c|d|", 7);
        fault(c, "|||%%|%", 5);
        fault(c, "||||%x", 3);
        fault(c, "|||%w|", 5);
        fault(c, "|||" + "a".repeat(76) + "|", 79);
        c.due("the third at place 79", printed(three(), "||" + "1".repeat(77) + "|"), "1".repeat(77));
    }

    private static void tooFewBars(Checks c) {
        c.words("fewer than three, at the end.");
        fault(c, "", 0);
        fault(c, "a", 1);
        fault(c, "|", 1);
        fault(c, "||", 2);
        fault(c, "a|b|c", 5);
        fault(c, "%%%n", 4);
        fault(c, "||%%", 4);
        fault(c, "a".repeat(80), 80);
        fault(c, "||" + "a".repeat(78), 80);
        Book x = three();
        Checks.style(x, "||");
        c.due("two", x.print(), -3);
        x.style('|');
        c.due("mended by the third", x.print(), 0);
        x.style('|');
        c.due("and broken by the fourth", x.print(), -4);
    }
}
