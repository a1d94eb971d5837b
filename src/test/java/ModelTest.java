import java.util.Random;

/** Many runs of calls, always the same ones, answered by the class and by the model: no answer may differ. */
public final class ModelTest {
    private static final int RUNS = 600;
    /** An object is used for 512 calls; the last of them look at everything. */
    private static final int CALLS = 350;
    private static final int MOST_CALLS = 512;
    private static final String[] STYLES = {"%g%n|%w %p %s%n| %w: %p (%s)%n|  %w %p%%", "|%p||", "[%g]|%w,|-%w,|=%w(%p),",
        "%w%p%s|%g%s|%s%n|", "a|b|c|d|", "%q|||", "||", "|%w%w%w%w%w%p%p%p%s%s%s|%w%w%p%p|%w%p%s"};
    private static final String[] ALPHABETS = {"ab", "aAbB", "a1", "a b-", "aA\u00e1\u00c1", "01", "0129", "a0 -\u00b0\u00e1A[{",
        "xyz", "9 "};

    private final Random random;
    private final Checks checks;
    private final IndexSort real = new IndexSort();
    private final Model model = new Model();
    private final String alphabet;
    private final int pageSpread;
    private final int entryShare;
    private int entries = 0;
    private int call = 0;
    private int a;
    private int b;
    private int d;
    private boolean flag;

    private ModelTest(long seed, Checks checks) {
        this.random = new Random(seed);
        this.checks = checks;
        this.alphabet = ALPHABETS[random.nextInt(ALPHABETS.length)];
        this.pageSpread = new int[] {6, 12, 40, 4000}[random.nextInt(4)];
        this.entryShare = new int[] {1, 4, 15, 40}[random.nextInt(4)];
    }

    public static void main(String[] args) {
        int runs = args.length > 0 ? Integer.parseInt(args[0]) : RUNS;
        Checks checks = new Checks();
        for (int run = 0; run < runs; run++) {
            new ModelTest(run, checks).play(run);
        }
        checks.end();
    }

    private void play(int run) {
        while (call < CALLS) {
            step("run " + run);
        }
        look("run " + run + ", at its end");
    }

    private void look(String name) {
        int warnings = both(name + " told", () -> real.told(-1, 0), () -> model.told(-1, 0));
        for (a = 0; a <= warnings && a < 6; a++) {
            for (d = 0; d < 3; d++) {
                both(name + " told", () -> real.told(a, d), () -> model.told(a, d));
            }
        }
        int rows = both(name + " run", () -> real.run(), () -> model.run());
        for (a = 0; a <= rows; a++) {
            for (b = 0; b < 5 && call < MOST_CALLS; b++) {
                both(name + " row", () -> real.row(a, b), () -> model.row(a, b));
            }
            lookAtLocators(name);
        }
    }

    private void lookAtLocators(String name) {
        for (b = 0; b < 10 && call < MOST_CALLS; b++) {
            for (d = 0; d < 3; d++) {
                if (both(name + " locator", () -> real.locator(a, b, d), () -> model.locator(a, b, d)) < 0) {
                    return;
                }
            }
        }
    }

    private int pick(int... values) {
        return values[random.nextInt(values.length)];
    }

    private int someEntry() {
        return random.nextInt(60) == 0 ? pick(-1, entries, -5, 1000) : entries == 0 ? 0 : random.nextInt(entries);
    }

    private void step(String name) {
        int kind = random.nextInt(100);
        if (kind < entryShare) {
            tellEntry(name);
        } else if (kind < 55) {
            a = someEntry();
            b = random.nextInt(40) == 0 ? pick(-1, 256, 0, 255) : alphabet.charAt(random.nextInt(alphabet.length()));
            if (random.nextInt(3) > 0) {
                both(name + " sign", () -> real.sign(a, b), () -> model.sign(a, b));
            } else {
                tellPages(name);
            }
        } else if (kind < 62) {
            tellPages(name);
        } else if (kind < 67) {
            a = someEntry();
            b = someEntry();
            both(name + " see", () -> real.see(a, b), () -> model.see(a, b));
        } else if (kind < 69) {
            a = random.nextInt(20) == 0 ? pick(-1, 2) : random.nextInt(2);
            flag = random.nextBoolean();
            both(name + " rule", () -> real.rule(a, flag), () -> model.rule(a, flag));
        } else if (kind < 96) {
            ask(name);
        } else {
            print(name);
        }
    }

    private void tellEntry(String name) {
        a = random.nextInt(20) == 0 ? pick(-1, 3) : random.nextInt(3);
        b = a == 0 && random.nextInt(15) > 0 ? -1 : someEntry();
        int made = both(name + " entry", () -> real.entry(a, b), () -> model.entry(a, b));
        if (made >= 0) {
            entries++;
        }
    }

    private void tellPages(String name) {
        a = someEntry();
        if (random.nextInt(3) == 0) {
            b = 1 + random.nextInt(pageSpread);
            flag = random.nextBoolean();
            both(name + " range", () -> real.range(a, b, flag), () -> model.range(a, b, flag));
            return;
        }
        b = random.nextInt(30) == 0 ? pick(-1, 3) : pick(0, 1, 1, 1, 2);
        d = random.nextInt(30) == 0 ? pick(0, -1, 702, 703, 3999, 4000, 99999, 100000) : 1 + random.nextInt(pageSpread);
        both(name + " page", () -> real.page(a, b, d), () -> model.page(a, b, d));
    }

    private void ask(String name) {
        a = random.nextInt(Math.max(1, entries)) - random.nextInt(30) / 29;
        b = random.nextInt(6) - random.nextInt(30) / 29;
        d = random.nextInt(4) - random.nextInt(30) / 29;
        switch (random.nextInt(5)) {
            case 0:
                both(name + " row", () -> real.row(a, b), () -> model.row(a, b));
                break;
            case 1:
                both(name + " locator", () -> real.locator(a, b, d), () -> model.locator(a, b, d));
                break;
            case 2:
                both(name + " told", () -> real.told(a, d), () -> model.told(a, d));
                break;
            case 3:
                a = someEntry();
                b = someEntry();
                both(name + " compare", () -> real.compare(a, b), () -> model.compare(a, b));
                break;
            default:
                both(name + " run", () -> real.run(), () -> model.run());
                both(name + " told", () -> real.told(-1, d), () -> model.told(-1, d));
                break;
        }
    }

    private void print(String name) {
        if (random.nextInt(3) > 0) {
            String style = STYLES[random.nextInt(STYLES.length)];
            if (random.nextInt(4) > 0) {
                a = 0;
                both(name + " style", () -> real.style(a), () -> model.style(a));
            }
            for (int k = 0; k < style.length(); k++) {
                a = style.charAt(k);
                both(name + " style", () -> real.style(a), () -> model.style(a));
            }
        }
        int count = both(name + " print", () -> real.print(), () -> model.print());
        for (int k = 0; k < 12; k++) {
            a = random.nextInt(Math.max(1, count + 2)) - 1;
            both(name + " at", () -> real.at(a), () -> model.at(a));
        }
    }

    /** The answer of both; of an exception its name's hash, less than any answer, so that it counts as one. */
    private int both(String name, Checks.Call first, Checks.Call second) {
        call++;
        int got = answer(first);
        int due = answer(second);
        checks.due(name + ", call " + call + " (" + a + ", " + b + ", " + d + ", " + flag + ")", got, due);
        return due;
    }

    private static int answer(Checks.Call call) {
        try {
            return call.answer();
        } catch (RuntimeException e) {
            return Integer.MIN_VALUE + (Checks.isByHand(e) ? Math.abs(e.getClass().getName().hashCode() % 1000000) : -1);
        }
    }
}
