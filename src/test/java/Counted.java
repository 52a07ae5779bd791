/** The class under test, as the document lets it be used: 512 calls on an object and no more. */
final class Counted {
    static final int MOST_CALLS = 512;

    private final BoreSpans object = new BoreSpans();
    private int calls = 0;

    /** A test that asks beyond the 512th call asks for what is not promised: it is the test that is wrong then. */
    private BoreSpans next() {
        if (calls == MOST_CALLS) {
            throw new IllegalStateException("a test calls one object more than 512 times");
        }
        calls++;
        return object;
    }

    int callsLeft() {
        return MOST_CALLS - calls;
    }

    int told(int what) {
        return next().told(what);
    }

    int shaftAt(int s, int what) {
        return next().shaftAt(s, what);
    }

    int boreAt(int b, int what) {
        return next().boreAt(b, what);
    }

    int gradeAt(int g, int what) {
        return next().gradeAt(g, what);
    }

    int sort(int k, int what) {
        return next().sort(k, what);
    }

    int find(int grade, int size) {
        return next().find(grade, size);
    }

    int shaft(int g, int size) {
        return next().shaft(g, size);
    }

    int bore(int size) {
        return next().bore(size);
    }

    int takeShaft(int s) {
        return next().takeShaft(s);
    }

    int takeBore(int b) {
        return next().takeBore(b);
    }

    int grade(int g, int least, int most) {
        return next().grade(g, least, most);
    }

    int putAway() {
        return next().putAway();
    }

    int batch(int n) {
        return next().batch(n);
    }

    int clear() {
        return next().clear();
    }

    int undo(int n) {
        return next().undo(n);
    }

    int crowd(int what) {
        return next().crowd(what);
    }

    int boxes(int k) {
        return next().boxes(k);
    }

    int withBore(int size) {
        return next().withBore(size);
    }

    int see(int g, int size, boolean went) {
        return next().see(g, size, went);
    }

    int forget() {
        return next().forget();
    }

    int seed(int v) {
        return next().seed(v);
    }

    int keep(int i) {
        return next().keep(i);
    }

    int goBack(int i) {
        return next().goBack(i);
    }
}
