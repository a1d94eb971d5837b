/**
 * Every call with all arguments at and beyond the ends of what fits, on an empty, a small and a full index: the class
 * answers, or throws by hand, as the model does.
 */
public final class WildTest {
    private static final int[] WILD = {Integer.MIN_VALUE, Integer.MIN_VALUE + 1, -100000, -256, -128, -2, -1, 0, 1, 2, 3, 4, 5, 6,
        19, 20, 21, 79, 80, 81, 127, 128, 255, 256, 702, 703, 3999, 4000, 5999, 6000, 99999, 100000, 100001, 200001,
        Integer.MAX_VALUE - 1, Integer.MAX_VALUE};
    private static final int[] FEW = {Integer.MIN_VALUE, -1, 0, 1, 2, 3, 19, 20, 79, 80, Integer.MAX_VALUE};

    interface OfModel {
        int on(Model m);
    }

    private final Checks checks = new Checks();
    private int fullness = 0;
    private IndexSort real;
    private Model model;
    private int calls;

    public static void main(String[] args) {
        WildTest test = new WildTest();
        for (int fullness = 0; fullness < 3; fullness++) {
            test.fullness = fullness;
            test.start();
            test.two();
            test.three();
            test.one();
        }
        test.checks.end();
    }

    private void start() {
        real = new IndexSort();
        model = new Model();
        calls = 0;
        if (fullness > 0) {
            fill(fullness == 1 ? 3 : 80, fullness == 1 ? 2 : 20);
        }
    }

    private void both(String name, Book.Call ofReal, OfModel ofModel) {
        calls++;
        String got = answer(() -> ofReal.on(real));
        String due = answer(() -> ofModel.on(model));
        if (!got.equals(due)) {
            checks.fail(name + " of index " + fullness + " answered " + got + ", due is " + due);
        }
    }

    private static String answer(Checks.Call call) {
        try {
            return String.valueOf(call.answer());
        } catch (RuntimeException e) {
            return e.getClass().getSimpleName() + (Checks.isByHand(e) ? "" : " of the machine");
        }
    }

    /** So many entries; the last one has so many signs and pages, and is to see where there is one. */
    private void fill(int entries, int signs) {
        for (int k = 0; k < entries; k++) {
            int level = k == 1 || k == entries - 1 ? k == 1 ? 1 : 2 : 0;
            int above = level == 0 ? -1 : level == 1 ? 0 : 1;
            both("entry", x -> x.entry(level, above), m -> m.entry(level, above));
        }
        int last = entries - 1;
        for (int k = 0; k < signs; k++) {
            int sign = 'a' + k;
            int n = 3 * k + 1;
            both("sign", x -> x.sign(last, sign), m -> m.sign(last, sign));
            both("page", x -> x.page(last, 1, n), m -> m.page(last, 1, n));
        }
        for (int k = 0; k < 5 && k < entries; k++) {
            int other = k;
            both("see", x -> x.see(last, other), m -> m.see(last, other));
        }
        String style = "%g|%w|%w|%w%p%s" + "x".repeat(entries == 80 ? 65 : 0);
        for (char c : style.toCharArray()) {
            both("style", x -> x.style(c), m -> m.style(c));
        }
        both("print", x -> x.print(), m -> m.print());
    }

    /** The calls that tell something fill the index; a new one is taken in time. */
    private void freshAfter(int most) {
        if (calls > most) {
            start();
        }
    }

    private void two() {
        for (int a : WILD) {
            for (int b : WILD) {
                freshAfter(450);
                String args = "(" + a + ", " + b + ")";
                both("row" + args, x -> x.row(a, b), m -> m.row(a, b));
                both("told" + args, x -> x.told(a, b), m -> m.told(a, b));
                both("compare" + args, x -> x.compare(a, b), m -> m.compare(a, b));
                both("rule" + args, x -> x.rule(a, b > 0), m -> m.rule(a, b > 0));
                both("see" + args, x -> x.see(a, b), m -> m.see(a, b));
                both("range end" + args, x -> x.range(a, b, true), m -> m.range(a, b, true));
                both("range" + args, x -> x.range(a, b, false), m -> m.range(a, b, false));
                both("sign" + args, x -> x.sign(a, b), m -> m.sign(a, b));
                both("entry" + args, x -> x.entry(a, b), m -> m.entry(a, b));
            }
        }
    }

    private void three() {
        for (int a : FEW) {
            for (int b : FEW) {
                for (int c : FEW) {
                    freshAfter(450);
                    String args = "(" + a + ", " + b + ", " + c + ")";
                    both("locator" + args, x -> x.locator(a, b, c), m -> m.locator(a, b, c));
                }
                for (int n : WILD) {
                    freshAfter(450);
                    both("page(" + a + ", " + b + ", " + n + ")", x -> x.page(a, b, n), m -> m.page(a, b, n));
                }
            }
        }
    }

    private void one() {
        for (int a : WILD) {
            freshAfter(400);
            both("at(" + a + ")", x -> x.at(a), m -> m.at(a));
            both("style(" + a + ")", x -> x.style(a), m -> m.style(a));
            both("print()", x -> x.print(), m -> m.print());
            both("at(" + a + ")", x -> x.at(a), m -> m.at(a));
        }
    }
}
