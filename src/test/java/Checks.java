import java.util.NoSuchElementException;

/** What the tests share: counting wrong answers, and telling an index what it holds in few words. */
final class Checks {
    static final Class<?> NO_ELEMENT = NoSuchElementException.class;
    static final Class<?> ARGUMENT = IllegalArgumentException.class;
    static final Class<?> UNSUPPORTED = UnsupportedOperationException.class;
    static final Class<?> INDEX = IndexOutOfBoundsException.class;
    static final Class<?> ARRAY_INDEX = ArrayIndexOutOfBoundsException.class;

    interface Call {
        int answer();
    }

    private int wrong = 0;

    void due(String what, long got, long want) {
        if (got != want) {
            fail(what + " answered " + got + ", due is " + want);
        }
    }

    void due(String what, String got, String want) {
        if (!got.equals(want)) {
            fail(what + " answered [" + got + "], due is [" + want + "]");
        }
    }

    /** The very class, and no message: the machine's own exceptions tell an index, ours tell nothing. */
    void thrown(String what, Class<?> want, Call call) {
        try {
            int got = call.answer();
            fail(what + " answered " + got + ", due is " + want.getSimpleName());
        } catch (RuntimeException e) {
            if (e.getClass() != want || e.getMessage() != null) {
                fail(what + " threw " + e + ", due is " + want.getSimpleName());
            }
        }
    }

    void fail(String message) {
        wrong++;
        if (wrong <= 50) {
            System.out.println(message);
        }
    }

    void end() {
        if (wrong > 0) {
            System.out.println(wrong + " answers are not as due");
            System.exit(1);
        }
    }

    static int top(IndexSort x, String words) {
        return under(x, -1, 0, words);
    }

    static int under(IndexSort x, int above, int level, String words) {
        int entry = x.entry(level, above);
        for (int k = 0; k < words.length(); k++) {
            x.sign(entry, words.charAt(k));
        }
        return entry;
    }

    static void pages(IndexSort x, int entry, int kind, int... numbers) {
        for (int n : numbers) {
            x.page(entry, kind, n);
        }
    }

    static void range(IndexSort x, int entry, int from, int to) {
        x.range(entry, from, false);
        x.range(entry, to, true);
    }

    static void style(IndexSort x, String style) {
        x.style(0);
        for (int k = 0; k < style.length(); k++) {
            x.style(style.charAt(k));
        }
    }

    static String rows(IndexSort x) {
        StringBuilder text = new StringBuilder();
        int count = x.run();
        for (int i = 0; i < count; i++) {
            text.append(i > 0 ? " " : "").append(x.row(i, 0));
        }
        return text.toString();
    }

    static String locators(IndexSort x, int row) {
        StringBuilder text = new StringBuilder();
        int count = x.row(row, 2);
        for (int j = 0; j < count; j++) {
            text.append(j > 0 ? " " : "").append(x.locator(row, j, 0)).append(':')
                    .append(x.locator(row, j, 1)).append('-').append(x.locator(row, j, 2));
        }
        return text.toString();
    }

    static String warnings(IndexSort x) {
        StringBuilder text = new StringBuilder();
        int count = x.told(-1, 0);
        for (int i = 0; i < count; i++) {
            text.append(i > 0 ? " " : "").append(x.told(i, 0)).append(':')
                    .append(x.told(i, 1)).append(':').append(x.told(i, 2));
        }
        return text.toString();
    }

    static String printed(IndexSort x) {
        int count = x.print();
        if (count < 0) {
            return "fault " + (-1 - count);
        }
        return outOf(x, count);
    }

    static String outOf(IndexSort x, int count) {
        StringBuilder text = new StringBuilder();
        for (int i = 0; i < count; i++) {
            text.append((char) x.at(i));
        }
        return text.toString();
    }
}
