import java.util.NoSuchElementException;

/** What the tests share: counting wrong answers, and telling an index what it holds in few words. */
final class Checks {
    static final Class<?> NO_ELEMENT = NoSuchElementException.class;
    static final Class<?> ARGUMENT = IllegalArgumentException.class;
    static final Class<?> UNSUPPORTED = UnsupportedOperationException.class;
    static final Class<?> INDEX = IndexOutOfBoundsException.class;
    static final Class<?> ARRAY_INDEX = ArrayIndexOutOfBoundsException.class;

    interface Call {
        int answer();
    }

    private int wrong = 0;
    private String words = "";

    /** The words of the document that the next checks are of; DocumentTest looks whether all of it is checked. */
    void words(String quoted) {
        words = quoted;
    }

    void due(String what, long got, long want) {
        if (got != want) {
            fail(what + " answered " + got + ", due is " + want);
        }
    }

    void due(String what, String got, String want) {
        if (!got.equals(want)) {
            fail(what + " answered [" + got + "], due is [" + want + "]");
        }
    }

    /** The very class, and thrown by hand. */
    void thrown(String what, Class<?> want, Call call) {
        try {
            int got = call.answer();
            fail(what + " answered " + got + ", due is " + want.getSimpleName());
        } catch (RuntimeException e) {
            if (e.getClass() != want || !isByHand(e)) {
                fail(what + " threw " + e + ", due is " + want.getSimpleName());
            }
        }
    }

    /**
     * Whether a throw statement made it: the machine's own ones tell of an index and a length, or have no stack once
     * there were many of them, and the library's ones come from the library.
     */
    static boolean isByHand(RuntimeException e) {
        StackTraceElement[] stack = e.getStackTrace();
        boolean ours = stack.length > 0 && stack[0].getClassName().matches("(IndexSort|Model)(\\$.*)?");
        return ours && (e.getMessage() == null || !e.getMessage().matches(".*out of bounds.*length.*"));
    }

    void fail(String message) {
        wrong++;
        if (wrong <= 50) {
            System.out.println(words.isEmpty() ? message : "\"" + words + "\": " + message);
        }
    }

    void end() {
        if (wrong > 0) {
            System.out.println(wrong + " answers are not as due");
            System.exit(1);
        }
    }

    /** A new index of entries of level 0 with these words. */
    static Book tops(String... words) {
        Book x = new Book();
        for (String w : words) {
            top(x, w);
        }
        return x;
    }

    static int top(Book x, String words) {
        return under(x, -1, 0, words);
    }

    static int under(Book x, int above, int level, String words) {
        int entry = x.entry(level, above);
        for (int k = 0; k < words.length(); k++) {
            x.sign(entry, words.charAt(k));
        }
        return entry;
    }

    static void pages(Book x, int entry, int kind, int... numbers) {
        for (int n : numbers) {
            x.page(entry, kind, n);
        }
    }

    static void range(Book x, int entry, int from, int to) {
        x.range(entry, from, false);
        x.range(entry, to, true);
    }

    static void style(Book x, String style) {
        x.style(0);
        for (int k = 0; k < style.length(); k++) {
            x.style(style.charAt(k));
        }
    }

    static void see(Book x, int entry, int... others) {
        for (int other : others) {
            x.see(entry, other);
        }
    }

    static String rows(Book x) {
        StringBuilder text = new StringBuilder();
        int count = x.run();
        for (int i = 0; i < count; i++) {
            text.append(i > 0 ? " " : "").append(x.row(i, 0));
        }
        return text.toString();
    }

    static String locators(Book x, int row) {
        StringBuilder text = new StringBuilder();
        int count = x.row(row, 2);
        for (int j = 0; j < count; j++) {
            text.append(j > 0 ? " " : "").append(x.locator(row, j, 0)).append(':')
                    .append(x.locator(row, j, 1)).append('-').append(x.locator(row, j, 2));
        }
        return text.toString();
    }

    static String warnings(Book x) {
        StringBuilder text = new StringBuilder();
        int count = x.told(-1, 0);
        for (int i = 0; i < count; i++) {
            text.append(i > 0 ? " " : "").append(x.told(i, 0)).append(':')
                    .append(x.told(i, 1)).append(':').append(x.told(i, 2));
        }
        return text.toString();
    }

    static String printed(Book x) {
        int count = x.print();
        if (count < 0) {
            return "fault " + (-1 - count);
        }
        return outOf(x, count);
    }

    static String outOf(Book x, int count) {
        StringBuilder text = new StringBuilder();
        for (int i = 0; i < count; i++) {
            text.append((char) x.at(i));
        }
        return text.toString();
    }
}
