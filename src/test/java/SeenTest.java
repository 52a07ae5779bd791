/** Promises 20 and 21, see and forget, and of promise 2 what is SEEN, SIZES and TRY. */
public final class SeenTest {
    private static final Check check = new Check("SeenTest");

    public static void main(String[] args) {
        seeAndForget();
        seeRefused();
        sizes();
        sizesAtTheEdges();
        sixCutOut();
        byGradesAsTheyAre();
        tries();
        check.end();
    }

    private static void sizesAre(String when, Counted x, int count, int least, int greatest) {
        check.due(when + ": how many", x.told(11), count);
        check.due(when + ": the least", x.told(12), least);
        check.due(when + ": the greatest", x.told(13), greatest);
    }

    private static void seeAndForget() {
        Counted x = new Counted();
        check.due("forget() of nothing", x.forget(), 0);
        for (int i = 1; i <= 6; i++) {
            check.due("see", x.see(3, 9999, false), i);
            check.due("told(10)", x.told(10), i);
        }
        check.due("the 7th", x.see(3, 9999, false), Check.FULL);
        check.due("told(10)", x.told(10), 6);
        check.due("no deed", x.told(15), 0);
        check.due("forget()", x.forget(), 6);
        check.due("forget()", x.forget(), 0);
        sizesAre("forgotten", x, 10000, 0, 9999);
        check.due("see", x.see(0, 0, true), 1);
    }

    private static void seeRefused() {
        Counted x = new Counted();
        check.due("see(4, 0, true)", x.see(4, 0, true), Check.UNKNOWN);
        check.due("see(4, -1, true)", x.see(4, -1, true), Check.UNKNOWN);
        for (int wild : Check.WILD) {
            check.due("see(" + wild + ", 0, true)", x.see(wild, 0, true), Check.UNKNOWN);
            check.due("see(0, " + wild + ", false)", x.see(0, wild, false), Check.OUTSIDE);
        }
        check.due("told(10)", x.told(10), 0);
        for (int i = 0; i < 6; i++) {
            x.see(0, 5, true);
        }
        check.due("full: see(4, 0, true)", x.see(4, 0, true), Check.UNKNOWN);
        check.due("full: see(0, 10000, true)", x.see(0, 10000, true), Check.OUTSIDE);
    }

    private static void sizes() {
        Counted x = new Counted();
        x.grade(1, 10, 20);
        x.see(1, 100, true);
        sizesAre("went", x, 11, 110, 120);
        x.see(1, 105, false);
        sizesAre("did not", x, 5, 110, 114);
        x.see(1, 103, true);
        sizesAre("went too", x, 2, 113, 114);
        x.see(1, 104, false);
        sizesAre("and not", x, 1, 113, 113);
        x.see(1, 103, false);
        sizesAre("against one another", x, 0, Check.NONE, Check.NONE);
        x.forget();
        x.see(1, 100, false);
        sizesAre("a gap", x, 9989, 0, 9999);
        x.see(1, 95, true);
        sizesAre("ahead of the gap", x, 5, 105, 109);
    }

    private static void sizesAtTheEdges() {
        Counted x = new Counted();
        x.grade(0, 0, 999);
        x.grade(1, 1, 999);
        x.see(0, 9990, true);
        sizesAre("at the top", x, 10, 9990, 9999);
        x.forget();
        x.see(0, 9990, false);
        sizesAre("not at the top", x, 9990, 0, 9989);
        x.see(0, 0, false);
        sizesAre("nor at the bottom", x, 8990, 1000, 9989);
        x.forget();
        x.see(1, 9999, true);
        sizesAre("beyond all", x, 0, Check.NONE, Check.NONE);
        x.forget();
        x.see(1, 9999, false);
        sizesAre("not beyond all", x, 10000, 0, 9999);
    }

    private static void sixCutOut() {
        Counted x = new Counted();
        x.grade(0, 0, 9);
        int[] at = {500, 100, 900, 300, 700, 5000};
        for (int i = 0; i < 6; i++) {
            x.see(0, at[i], false);
            check.due("cut out", x.told(11), 10000 - 10 * (i + 1));
        }
        sizesAre("six cut out", x, 9940, 0, 9999);
        x.forget();
        x.see(0, 100, false);
        x.see(0, 105, false);
        x.see(0, 95, false);
        x.see(0, 100, false);
        sizesAre("over one another", x, 9980, 0, 9999);
        x.see(0, 95, true);
        sizesAre("none is left there", x, 0, Check.NONE, Check.NONE);
    }

    private static void byGradesAsTheyAre() {
        Counted x = new Counted();
        x.see(2, 50, true);
        sizesAre("no play", x, 1, 50, 50);
        x.grade(2, 1, 3);
        sizesAre("some play", x, 3, 51, 53);
        x.undo(1);
        sizesAre("undone", x, 1, 50, 50);
    }

    private static void tries() {
        Counted x = new Counted();
        x.grade(0, 0, 9);
        x.grade(1, 0, 3);
        check.due("no shaft", x.told(14), Check.NONE);
        x.shaft(0, 100);
        check.due("shaft 0 parts all", x.told(14), 0);
        x.see(0, 100, true);
        check.due("it parts nothing", x.told(14), Check.NONE);
        x.shaft(0, 110);
        check.due("it parts nothing either", x.told(14), Check.NONE);
        x.shaft(0, 109);
        check.due("one of ten", x.told(14), 2);
        x.shaft(1, 100);
        check.due("four of ten", x.told(14), 3);
        x.shaft(1, 104);
        check.due("of like ones the least", x.told(14), 3);
        x.shaft(0, 105);
        check.due("five of ten", x.told(14), 5);
        x.shaft(0, 104);
        check.due("six of ten is less good", x.told(14), 5);
        x.see(0, 105, true);
        check.due("of five: one is like four", x.told(14), 4);
        x.see(0, 90, true);
        check.due("of none", x.told(14), Check.NONE);
    }
}
