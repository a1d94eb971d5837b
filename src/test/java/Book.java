import java.util.ArrayList;
import java.util.List;

/**
 * An index under test: the face of IndexSort. It keeps to the 512 calls that the document promises, and behind each
 * call that must change nothing (it throws, or answers that it did nothing) it looks whether nothing has changed.
 */
final class Book {
    static final int MOST_CALLS = 512;

    interface Call {
        int on(IndexSort x);
    }

    private final IndexSort real = new IndexSort();
    private final List<Call> calls = new ArrayList<>();

    int entry(int level, int above) {
        return answer(x -> x.entry(level, above));
    }

    int sign(int entry, int c) {
        return answer(x -> x.sign(entry, c));
    }

    int page(int entry, int kind, int n) {
        return answer(x -> x.page(entry, kind, n));
    }

    int range(int entry, int n, boolean ends) {
        return answerOrNothing(x -> x.range(entry, n, ends), 0);
    }

    int see(int entry, int other) {
        return answerOrNothing(x -> x.see(entry, other), 0);
    }

    int rule(int which, boolean on) {
        return answer(x -> x.rule(which, on));
    }

    int run() {
        return answer(x -> x.run());
    }

    int row(int i, int what) {
        return answer(x -> x.row(i, what));
    }

    int locator(int i, int j, int what) {
        return answer(x -> x.locator(i, j, what));
    }

    int compare(int a, int b) {
        return answer(x -> x.compare(a, b));
    }

    int told(int i, int what) {
        return answer(x -> x.told(i, what));
    }

    int style(int c) {
        return answer(x -> x.style(c));
    }

    int print() {
        return answerOrNothing(x -> x.print(), -1);
    }

    int at(int i) {
        return answer(x -> x.at(i));
    }

    int callsLeft() {
        return MOST_CALLS - calls.size();
    }

    private int answer(Call call) {
        if (calls.size() == MOST_CALLS) {
            throw new AssertionError("a test makes more than " + MOST_CALLS + " calls");
        }
        try {
            return call.on(real);
        } catch (RuntimeException e) {
            Unchanged.look(calls, call);
            throw e;
        } finally {
            calls.add(call);
        }
    }

    /** An answer of at most nothing says that the call did nothing. */
    private int answerOrNothing(Call call, int nothing) {
        int answer = answer(call);
        if (answer <= nothing) {
            Unchanged.look(calls.subList(0, calls.size() - 1), call);
        }
        return answer;
    }
}
