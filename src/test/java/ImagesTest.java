/** Promises 22 to 24: seed, keep, goBack. */
public final class ImagesTest {
    private static final Check check = new Check("ImagesTest");

    public static void main(String[] args) {
        seed();
        refused();
        keptAndGoneBackTo();
        twoImages();
        sortsAnew();
        nothingUndone();
        whatStays();
        constants();
        check.end();
    }

    private static void seed() {
        Counted x = new Counted();
        check.due("seed(5)", x.seed(5), 0);
        check.due("seed(MAX)", x.seed(Integer.MAX_VALUE), 5);
        check.due("seed(-1)", x.seed(-1), Check.OUTSIDE);
        check.due("seed(MIN)", x.seed(Integer.MIN_VALUE), Check.OUTSIDE);
        check.due("seed(0)", x.seed(0), Integer.MAX_VALUE);
        x.batch(1);
        // 12345, then 12345 * 1103515245 + 12345 left over by 2 to the 31.
        check.due("two draws from 0 on", x.seed(0), (12345L * 1103515245L + 12345L) % 2147483648L);
        check.due("no deed but the batch", x.told(15), 1);
    }

    private static void refused() {
        Counted x = new Counted();
        for (int wild : Check.WILD) {
            check.due("keep(" + wild + ")", x.keep(wild), Check.UNKNOWN);
            check.due("goBack(" + wild + ")", x.goBack(wild), Check.UNKNOWN);
        }
        check.due("keep(2)", x.keep(2), Check.UNKNOWN);
        check.due("goBack(2)", x.goBack(2), Check.UNKNOWN);
        check.due("goBack(0)", x.goBack(0), Check.NOT);
        check.due("goBack(1)", x.goBack(1), Check.NOT);
        x.bore(1);
        x.keep(2);
        x.goBack(1);
        check.due("what is refused leaves what can be undone", x.told(15), 1);
        check.due("keep(1)", x.keep(1), 1);
        check.due("goBack(0)", x.goBack(0), Check.NOT);
        check.due("goBack(1)", x.goBack(1), 1);
    }

    private static Counted some() {
        Counted x = new Counted();
        putSome(x);
        return x;
    }

    private static void putSome(Counted x) {
        x.grade(0, 1, 2);
        x.grade(3, 4, 50);
        x.shaft(3, 100);
        x.shaft(0, 101);
        x.bore(103);
        x.seed(77);
    }

    private static void keptAndGoneBackTo() {
        Looks.Run kept = x -> {
            putSome(x);
            x.keep(0);
        };
        Looks.Run goneBack = x -> {
            kept.on(x);
            x.batch(20);
            x.grade(0, 9, 9);
            x.takeShaft(0);
            x.putAway();
            x.clear();
            x.seed(1);
            check.due("goBack(0)", x.goBack(0), 1);
        };
        Looks.Run goneBackTwice = x -> {
            goneBack.on(x);
            x.clear();
            check.due("goBack(0) again", x.goBack(0), 1);
        };
        check.alike("gone back", goneBack, kept);
        check.alike("gone back again", goneBackTwice, kept);
    }

    private static void twoImages() {
        Counted x = some();
        x.keep(0);
        x.bore(500);
        x.seed(78);
        x.keep(1);
        x.clear();
        x.goBack(0);
        check.due("image 0: bores", x.told(1), 1);
        check.due("image 0: seed", x.seed(0), 77);
        x.goBack(1);
        check.due("image 1: bores", x.told(1), 2);
        check.due("image 1: seed", x.seed(0), 78);
        x.clear();
        x.keep(1);
        x.goBack(0);
        x.goBack(1);
        check.due("image 1 kept anew: bores", x.told(1), 0);
    }

    private static void sortsAnew() {
        Counted x = new Counted();
        x.bore(9);
        x.shaft(1, 5);
        x.bore(8);
        x.bore(9);
        x.shaft(1, 5);
        x.shaft(0, 5);
        x.shaft(2, 7);
        x.takeShaft(0);
        x.takeShaft(2);
        x.keep(0);
        check.due("keeping leaves the sorts", x.told(2), 5);
        check.due("keeping leaves their order", x.find(4, 9), 0);
        check.due("keeping leaves what was ever", x.sort(1, 3), 2);
        x.goBack(0);
        check.due("sorts anew", x.told(2), 4);
        int[][] due = {{1, 5, 1, 1}, {0, 5, 1, 1}, {4, 9, 2, 2}, {4, 8, 1, 1}};
        for (int k = 0; k < due.length; k++) {
            for (int what = 0; what < 4; what++) {
                check.due("sort(" + k + ", " + what + ")", x.sort(k, what), due[k][what]);
            }
        }
        check.due("find(2, 7)", x.find(2, 7), Check.NONE);
    }

    private static void nothingUndone() {
        Counted x = some();
        check.due("told(15)", x.told(15), 5);
        check.due("keep(0)", x.keep(0), 1);
        check.due("told(15)", x.told(15), 0);
        check.due("undo(1)", x.undo(1), Check.NOT);
        x.bore(1);
        x.bore(2);
        check.due("goBack(0)", x.goBack(0), 1);
        check.due("told(15)", x.told(15), 0);
        check.due("undo(1)", x.undo(1), Check.NOT);
        x.bore(1);
        check.due("undo(1)", x.undo(1), 3);
        check.due("undo(1)", x.undo(1), Check.NOT);
    }

    private static void whatStays() {
        Counted x = some();
        x.see(0, 100, true);
        x.keep(0);
        x.see(0, 100, false);
        x.goBack(0);
        check.due("what is seen stays", x.told(10), 2);
    }

    private static void constants() {
        check.due("NONE", BoreSpans.NONE, Check.NONE);
        check.due("UNKNOWN", BoreSpans.UNKNOWN, Check.UNKNOWN);
        check.due("OUTSIDE", BoreSpans.OUTSIDE, Check.OUTSIDE);
        check.due("NOT", BoreSpans.NOT, Check.NOT);
        check.due("FULL", BoreSpans.FULL, Check.FULL);
    }
}
