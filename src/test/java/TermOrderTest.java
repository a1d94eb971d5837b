/** "Terms": ORDER, a sentence after the other. */
public final class TermOrderTest {
    private static final boolean ON = true;
    private static final boolean OFF = false;
    private static final String TWENTY_NINES = "99999999999999999999";

    private final Checks c = new Checks();
    private boolean digits = ON;
    private boolean words = ON;

    public static void main(String[] args) {
        TermOrderTest test = new TermOrderTest();
        test.lettersWithoutCaseAndMark();
        test.oneNumberOfDigits();
        test.greatNumbers();
        test.digitsByThemselves();
        test.everyOtherSignABreak();
        test.severalBreaksAreOne();
        test.noBreakAtTheEnds();
        test.noBreaksWithoutTheRule();
        test.longestKeys();
        test.endOfAKey();
        test.kindsOfUnits();
        test.firstPlace();
        test.endOfWords();
        test.signWithoutMark();
        test.smallBeforeGreat();
        test.notMarkedBeforeMarked();
        test.c.end();
    }

    private void rules(boolean withDigits, boolean withWords) {
        digits = withDigits;
        words = withWords;
    }

    private int order(String a, String b) {
        Book x = new Book();
        x.rule(0, digits);
        x.rule(1, words);
        Checks.top(x, a);
        Checks.top(x, b);
        int order = x.compare(0, 1);
        c.due("[" + b + "] to [" + a + "], the other way round", x.compare(1, 0), -order);
        c.due("rows of [" + a + "], [" + b + "]", Checks.rows(x), order == 0 ? "0" : order < 0 ? "0 1" : "1 0");
        return order;
    }

    private void before(String a, String b) {
        c.due("[" + a + "] to [" + b + "]", order(a, b), -1);
    }

    /** Equal keys leave it to what stands behind them, whichever of the two that is behind. */
    private void equalKeys(String a, String b) {
        before(a + "a", b + "b");
        before(b + "a", a + "b");
    }

    private void lettersWithoutCaseAndMark() {
        c.words("ORDER: the KEY of words is a row of UNITS: each letter one, without case and mark;");
        rules(ON, ON);
        for (char letter = 'a'; letter <= 'z'; letter++) {
            String small = "" + letter;
            String great = "" + (char) (letter - 32);
            String smallMarked = "" + (char) (letter + 128);
            String greatMarked = "" + (char) (letter + 96);
            equalKeys(small, great);
            equalKeys(small, smallMarked);
            equalKeys(small, greatMarked);
            equalKeys(great, greatMarked);
        }
        before("ab", "b");
        before("a", "ab");
    }

    private void oneNumberOfDigits() {
        c.words("with the rule DIGITS each longest row of digits one NUMBER (its value, however many digits there are),");
        rules(ON, ON);
        before("9", "10");
        before("2", "10");
        before("99", "100");
        before("a9", "a10");
        before("a2b", "a10b");
        before("1a10", "1a11");
        before("1 9", "1 10");
        equalKeys("0", "00");
        equalKeys("7", "00000000000000007");
        equalKeys("a07", "a7");
        before("00", "1");
        before("0", "01");
        before("00000000000000000009", "10");
        before("10", "00000000000000000011");
        before("1" + (char) ('2' + 128) + "3", "13");
        before("0", "0 0");
    }

    private void greatNumbers() {
        c.words("with the rule DIGITS each longest row of digits one NUMBER (its value, however many digits there are),");
        rules(ON, ON);
        String[] rising = {"0", "1", "127", "128", "255", "256", "32767", "32768", "65535", "65536", "2147483647",
            "2147483648", "4294967295", "4294967296", "4294967297", "9007199254740992", "9007199254740993",
            "9223372036854775807", "9223372036854775808", "9999999999999999999", "10000000000000000000",
            "18446744073709551615", "18446744073709551616", "18446744073709551617", "99999999999999999998", TWENTY_NINES};
        for (int a = 0; a < rising.length; a++) {
            for (int b = a + 1; b < rising.length; b++) {
                before(rising[a], rising[b]);
            }
        }
        before("2000000000000000000", "10000000000000000000");
        before(TWENTY_NINES, "a");
    }

    private void digitsByThemselves() {
        c.words("without it each digit a number by itself;");
        rules(OFF, ON);
        before("10", "9");
        before("10", "2");
        before("100", "99");
        before("007", "01");
        before("0", "00");
        before("09", "1");
        before("00000000000000000009", "1");
        before("99999999999999999998", TWENTY_NINES);
        before("9999999999999999999", TWENTY_NINES);
        before(TWENTY_NINES, "a");
        before("9", "9a");
        before("1a", "2");
        before("1 9", "10");
        rules(OFF, OFF);
        before("1-2", "13");
        before("12", "1-3");
        for (int k = 0; k < 9; k++) {
            before("" + k + 9, "" + (k + 1) + 0);
        }
    }

    private static boolean isOther(int sign) {
        boolean isDigit = sign >= '0' && sign <= '9';
        int plain = sign % 128;
        return !isDigit && !(plain >= 'a' && plain <= 'z') && !(plain >= 'A' && plain <= 'Z');
    }

    private void everyOtherSignABreak() {
        c.words("with the rule WORDS each other sign a BREAK");
        rules(ON, ON);
        for (int sign = 0; sign < 256; sign++) {
            String parted = "a" + (char) sign + "z";
            if (isOther(sign)) {
                before(parted, "a0");
                before("a", parted);
                equalKeys(parted, "a z");
            } else {
                before("a z", parted);
            }
        }
    }

    private void severalBreaksAreOne() {
        c.words("(several one behind the other are one;");
        rules(ON, ON);
        equalKeys("a b", "a  b");
        equalKeys("a b", "a - \u00b2\0\u00ffb");
        equalKeys("a-b", "a                b");
        equalKeys("1 2", "1 -2");
        equalKeys("a b c", "a  b   c");
        before("a  b", "a0");
        before("a b  a", "a  b b");
    }

    private void noBreakAtTheEnds() {
        c.words("none at the ends),");
        rules(ON, ON);
        before("A", "{a");
        before("A", "{{a");
        before("a-", "A");
        before("a--", "A");
        before("A{", "{a{");
        before("a", "-b");
        before("0", "-a");
        before("0-", "00");
        before("", "-");
        before("", "--------------------");
        before("-------------------", "--------------------");
        before("--------------------", "0");
        before("-------------------z", "zz");
        before("a-------------------", "aa");
        equalKeys("", "-");
        equalKeys("", "-------------------");
    }

    private void noBreaksWithoutTheRule() {
        c.words("without it none.");
        rules(ON, OFF);
        for (int sign = 0; sign < 256; sign++) {
            if (isOther(sign)) {
                equalKeys("a" + (char) sign + "m", "am");
                before("a0", "a" + (char) sign + "z");
            }
        }
        equalKeys("a - b", "ab");
        equalKeys("-", "");
        before("1-2", "1-10");
        before("1-2", "12");
        before("a-b", "aB");
        before("ab", "a-c");
    }

    /** The last units decide against the first place at which the words differ. */
    private void longestKeys() {
        c.words("Units one by one: where one key ends it is first;");
        rules(ON, ON);
        before("{aaaaaaaaaaaaaaaaaaa", "aaaaaaaaaaaaaaaaaab");
        before("{1111111111111111111", "1111111111111111112");
        before("{1a1a1a1a1a1a1a1a1a1", "1a1a1a1a1a1a1a1a1a2");
        before("{1 1 1 1 1 1 1 1 1 1", "1 1 1 1 1 1 1 1 1 2");
        before("{a b a b a b a b a b", "a b a b a b a b a c");
        rules(OFF, ON);
        before("{1111111111111111111", "1111111111111111112");
        before("{1 1 1 1 1 1 1 1 1 1", "1 1 1 1 1 1 1 1 1 2");
        rules(OFF, OFF);
        before("{1111111111111111111", "1111111111111111112");
        before("{0000000000000000000", "00000000000000000000");
    }

    private void endOfAKey() {
        c.words("Units one by one: where one key ends it is first;");
        rules(ON, ON);
        before("", "0");
        before("-", "0");
        before("", "a");
        before("A", "a a");
        before("A", "a0");
        before("A", "aa");
        before("\u00c1", "aa");
        before("1", "01 0");
        before("1", "01a");
        before("abcdefghijklmnopqrS", "abcdefghijklmnopqrst");
        rules(OFF, ON);
        before("{1", "10");
        before("", "0");
    }

    private void kindsOfUnits() {
        c.words("a break is before a number, numbers (by value) before letters (a first).");
        rules(ON, ON);
        before("a z", "a0");
        before("a z", "a00");
        before("1 z", "1a");
        before("a " + "99999999999999999", "a0");
        before("0", "a");
        before("a9999999999999999999", "aa");
        before("9999999999999999999", "a");
        before("z0", "za");
        for (char letter = 'a'; letter < 'z'; letter++) {
            before(letter + "z", (char) (letter + 1) + "a");
            before((char) (letter + 96) + "z", (char) (letter + 1 - 32) + "a");
        }
        rules(OFF, ON);
        before("a z", "a0");
        before("a9", "aa");
        before("a09", "a1");
    }

    private void firstPlace() {
        c.words("Of equal keys it is by the first place at which the words differ:");
        rules(ON, ON);
        before("aBC", "Abc");
        before("abC", "aBc");
        before("a\u00c2", "Ab");
        before("ab- c", "ab-c");
        before("a {b", "a-b");
        before("(a-b", "a-b");
        before("07", "7");
        before("007", "07");
        before("7{", "7{{");
        c.due("none", order("aB-9", "aB-9"), 0);
        c.due("none of no words", order("", ""), 0);
        c.due("none of 20 signs", order(TWENTY_NINES, TWENTY_NINES), 0);
        before("aaaaaaaaaaaaaaaaaaaa", "aaaaaaaaaaaaaaaaaaaA");
    }

    private void endOfWords() {
        c.words("where one ends it is first; else the one that is less:");
        rules(ON, ON);
        before("a", "a-");
        before("a", "a\0");
        before("a\0", "a\0\0");
        before("", "\0");
        before("", "\u0080");
        before("a-------------------".substring(0, 19), "a-------------------");
        before("", "\0\0\0\0\0\0\0\0\0\0\0\0\0\0\0\0\0\0\0\0");
        before("1", "1{");
    }

    private void signWithoutMark() {
        c.words("by the sign without its mark, a great letter as its small one;");
        rules(ON, ON);
        before("a ", "a!");
        before("a\u00a0", "a!");
        before("a ", "a\u00a1");
        before("a\u0080", "a\u0001");
        before("a\u00fe", "a\u007f");
        before("@a", "A@");
        before("[a", "A[");
        before("`a", "A`");
        before("A{", "{a");
        before("[a", "\u00c1[");
        before("[z", "Z[");
        before("Z{", "{z");
        before("\u00da{", "\u00fbz");
        int last = 0;
        for (int sign = 1; sign < 128; sign++) {
            if (isOther(sign)) {
                before("a" + (char) last, "a" + (char) sign);
                before("a" + (char) (last + 128), "a" + (char) sign);
                before("a" + (char) (last + 128), "a" + (char) (sign + 128));
                last = sign;
            }
        }
    }

    private void smallBeforeGreat() {
        c.words("then a small letter before a great one;");
        rules(ON, ON);
        for (char letter = 'a'; letter <= 'z'; letter++) {
            before("" + letter, "" + (char) (letter - 32));
            before("" + (char) (letter + 128), "" + (char) (letter + 96));
            before("" + (char) (letter + 128), "" + (char) (letter - 32));
        }
    }

    private void notMarkedBeforeMarked() {
        c.words("then not marked before marked.");
        rules(ON, ON);
        for (int sign = 0; sign < 128; sign++) {
            if (sign < '0' || sign > '9') {
                before("" + (char) sign, "" + (char) (sign + 128));
                before("b" + (char) sign, "b" + (char) (sign + 128));
            } else {
                before("" + (char) sign + (char) (sign + 128), "" + (char) (sign + 128) + (char) sign);
            }
        }
    }
}
