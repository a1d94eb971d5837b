import java.util.ArrayList;
import java.util.List;

/**
 * Looks whether a call has changed nothing: two new objects are made by the same calls, one of them with that call
 * behind them, and then all that is asked of both, and told to both, must be answered alike.
 */
final class Unchanged {
    private static final int MOST_ENTRIES = 80;
    private static final String SHOWING_ALL = "%g,|%w,%p,%s.|%w,%p,%s.|%w,%p,%s.";

    private final List<Book.Call> before;
    private final Book.Call call;
    private final List<String> names = new ArrayList<>();
    private final List<Book.Call> probes = new ArrayList<>();

    private Unchanged(List<Book.Call> before, Book.Call call) {
        this.before = before;
        this.call = call;
    }

    static void look(List<Book.Call> before, Book.Call call) {
        Unchanged looker = new Unchanged(before, call);
        looker.lookAtAnswers();
        looker.lookAtWhatCanBeTold();
        looker.lookAtWords();
    }

    private IndexSort made(boolean withCall) {
        IndexSort x = new IndexSort();
        for (Book.Call c : before) {
            answer(x, c);
        }
        if (withCall) {
            answer(x, call);
        }
        return x;
    }

    private static String answer(IndexSort x, Book.Call c) {
        try {
            return String.valueOf(c.on(x));
        } catch (RuntimeException e) {
            return e.getClass().getSimpleName();
        }
    }

    private void add(String name, Book.Call probe) {
        names.add(name);
        probes.add(probe);
    }

    /** In parts as long as the document's limit of calls allows, each of them on new objects. */
    private void ask() {
        int most = Book.MOST_CALLS - before.size() - 1;
        for (int begin = 0; begin < probes.size() && most > 0; begin += most) {
            IndexSort one = made(false);
            IndexSort other = made(true);
            for (int k = begin; k < begin + most && k < probes.size(); k++) {
                String due = answer(one, probes.get(k));
                String got = answer(other, probes.get(k));
                if (!got.equals(due)) {
                    throw new AssertionError("a call that must change nothing, behind " + before.size() + " calls: then "
                            + names.get(k) + " answers " + got + ", without it " + due);
                }
            }
        }
        names.clear();
        probes.clear();
    }

    private void lookAtAnswers() {
        IndexSort x = made(false);
        int rows = x.run();
        int warnings = x.told(-1, 0);
        add("run()", y -> y.run());
        add("told(-1, 0)", y -> y.told(-1, 0));
        for (int k = 0; k < warnings; k++) {
            for (int w = 0; w < 3; w++) {
                int i = k;
                int what = w;
                add("told(" + i + ", " + what + ")", y -> y.told(i, what));
            }
        }
        for (int k = 0; k < rows; k++) {
            addRow(x, k);
        }
        for (int k = -1; k <= entriesOf(x); k++) {
            int e = k;
            add("compare(" + e + ", " + (e + 1) + ")", y -> y.compare(e, e + 1));
        }
        for (int i : new int[] {0, 1, 2, 3, 5, 8, 13, 21, 34, 5998, 5999, 6000}) {
            add("at(" + i + ")", y -> y.at(i));
        }
        add("print()", y -> y.print());
        ask();
    }

    private void addRow(IndexSort x, int i) {
        for (int w = 0; w < 5; w++) {
            int what = w;
            add("row(" + i + ", " + what + ")", y -> y.row(i, what));
        }
        int locators = x.row(i, 2);
        for (int k = 0; k < 3 * locators; k++) {
            int j = k / 3;
            int what = k % 3;
            add("locator(" + i + ", " + j + ", " + what + ")", y -> y.locator(i, j, what));
        }
    }

    private void lookAtWhatCanBeTold() {
        add("rule(0, true)", x -> x.rule(0, true));
        add("rule(1, true)", x -> x.rule(1, true));
        add("style(%)", x -> x.style('%'));
        add("print()", x -> x.print());
        int entries = entriesOf(made(false));
        for (int e = 0; e < entries; e++) {
            addTold(e);
        }
        add("entry(0, -1)", x -> x.entry(0, -1));
        ask();
    }

    private static int entriesOf(IndexSort x) {
        int count = 0;
        while (count < MOST_ENTRIES && isEntry(x, count)) {
            count++;
        }
        return count;
    }

    private static boolean isEntry(IndexSort x, int e) {
        return answer(x, y -> y.compare(e, e)).equals("0");
    }

    private void addTold(int e) {
        add("sign(" + e + ", m)", x -> x.sign(e, 'm'));
        add("page(" + e + ", 1, 7)", x -> x.page(e, 1, 7));
        add("range(" + e + ", 99999, true)", x -> x.range(e, 99999, true));
        add("range(" + e + ", 99999, false)", x -> x.range(e, 99999, false));
        for (int k = 0; k < 7; k++) {
            int other = k;
            add("see(" + e + ", " + other + ")", x -> x.see(e, other));
        }
    }

    private void lookAtWords() {
        add("style(0)", x -> x.style(0));
        for (char c : SHOWING_ALL.toCharArray()) {
            add("style(" + c + ")", x -> x.style(c));
        }
        add("print()", x -> x.print());
        for (int k = 0; k < 60; k++) {
            int i = k;
            add("at(" + i + ")", x -> x.at(i));
        }
        ask();
    }
}
