/** Promises 1 to 7: a new object, told, shaftAt, boreAt, gradeAt, sort, find. */
public final class PartsTest {
    private static final Check check = new Check("PartsTest");

    public static void main(String[] args) {
        newObject();
        toldCounts();
        toldPlays();
        toldOutside();
        shaftAt();
        pairedBySpanThatClosesFirst();
        pairedByBoreThatComesNext();
        boreAt();
        gradeAt();
        sorts();
        sortsWithNoneLeft();
        find();
        check.end();
    }

    private static void newObject() {
        Counted x = new Counted();
        int[] due = {0, 0, 0, 0, 0, 0, Check.NONE, Check.NONE, 0, Check.NONE, 0, 10000, 0, 9999, Check.NONE, 0};
        for (int what = 0; what < due.length; what++) {
            check.due("new: told(" + what + ")", x.told(what), due[what]);
        }
        for (int g = 0; g < 4; g++) {
            for (int what = 0; what < 3; what++) {
                check.due("new: gradeAt(" + g + ", " + what + ")", x.gradeAt(g, what), 0);
            }
        }
        check.due("new: shaftAt(0, 0)", x.shaftAt(0, 0), Check.UNKNOWN);
        check.due("new: boreAt(0, 0)", x.boreAt(0, 0), Check.UNKNOWN);
        check.due("new: sort(0, 0)", x.sort(0, 0), Check.UNKNOWN);
        check.due("new: seed", x.seed(0), 0);
        check.due("new: goBack(0)", x.goBack(0), Check.NOT);
        check.due("new: crowd(0)", x.crowd(0), Check.NONE);
        check.due("new: boxes(9)", x.boxes(9), 0);
    }

    /** SHAFTS with the SPANS 102..105, 200..200, 102..105, and four BORES. */
    private static Counted some() {
        Counted x = new Counted();
        x.grade(1, 2, 5);
        x.shaft(1, 100);
        x.shaft(0, 200);
        x.shaft(1, 100);
        x.bore(105);
        x.bore(201);
        x.bore(103);
        x.bore(105);
        return x;
    }

    private static void toldCounts() {
        Counted x = some();
        int[] due = {3, 4, 5, 2, 1, 2};
        for (int what = 0; what < due.length; what++) {
            check.due("some: told(" + what + ")", x.told(what), due[what]);
        }
        check.due("some: told(15)", x.told(15), 8);
    }

    private static void toldPlays() {
        Counted x = some();
        check.due("least play", x.told(6), 3);
        check.due("greatest play", x.told(7), 5);
        x.bore(200);
        check.due("least play 0", x.told(6), 0);
        check.due("greatest play still", x.told(7), 5);
        Counted wide = new Counted();
        wide.grade(2, 0, 999);
        wide.shaft(2, 9000);
        wide.bore(9999);
        check.due("least play 999", wide.told(6), 999);
        check.due("greatest play 999", wide.told(7), 999);
    }

    private static void toldOutside() {
        Counted x = some();
        check.due("told(16)", x.told(16), Check.OUTSIDE);
        for (int wild : Check.WILD) {
            check.due("told(" + wild + ")", x.told(wild), Check.OUTSIDE);
        }
    }

    private static void shaftAt() {
        Counted x = some();
        int[][] due = {{1, 100, 2, 102, 105, 0}, {0, 200, Check.NONE, 200, 200, 1}, {1, 100, 0, 102, 105, 0}};
        for (int s = 0; s < due.length; s++) {
            for (int what = 0; what < 6; what++) {
                check.due("shaftAt(" + s + ", " + what + ")", x.shaftAt(s, what), due[s][what]);
            }
        }
        check.due("shaftAt(0, 6)", x.shaftAt(0, 6), Check.OUTSIDE);
        check.due("shaftAt(3, 0)", x.shaftAt(3, 0), Check.UNKNOWN);
        check.due("shaftAt(3, 6)", x.shaftAt(3, 6), Check.UNKNOWN);
        for (int wild : Check.WILD) {
            check.due("shaftAt(" + wild + ", 0)", x.shaftAt(wild, 0), Check.UNKNOWN);
            check.due("shaftAt(2, " + wild + ")", x.shaftAt(2, wild), Check.OUTSIDE);
        }
    }

    private static void pairedBySpanThatClosesFirst() {
        Counted x = new Counted();
        x.grade(0, 0, 50);
        x.grade(1, 0, 10);
        x.grade(2, 0, 20);
        x.shaft(1, 140);
        x.shaft(2, 130);
        x.shaft(2, 130);
        x.shaft(0, 100);
        x.shaft(0, 99);
        x.bore(145);
        check.due("the span that ends first", x.boreAt(0, 1), 4);
        x.takeShaft(4);
        check.due("of spans that end alike the less size", x.boreAt(0, 1), 3);
        x.takeShaft(3);
        check.due("of these the least number", x.boreAt(0, 1), 1);
        x.takeShaft(1);
        check.due("its like has its number now", x.boreAt(0, 1), 1);
        x.takeShaft(1);
        check.due("the one that is left", x.boreAt(0, 1), 0);
        x.takeBore(0);
        x.bore(139);
        check.due("ahead of the span", x.boreAt(0, 1), Check.NONE);
        x.bore(140);
        check.due("at the span's beginning", x.boreAt(1, 1), 0);
        x.takeBore(1);
        x.bore(151);
        check.due("behind the span", x.boreAt(1, 1), Check.NONE);
        x.bore(150);
        check.due("at the span's end", x.boreAt(2, 1), 0);
    }

    private static void pairedByBoreThatComesNext() {
        Counted x = new Counted();
        x.grade(0, 0, 20);
        x.shaft(0, 130);
        x.bore(150);
        x.bore(150);
        check.due("of bores alike the first is paired", x.shaftAt(0, 2), 0);
        check.due("and the later is left", x.boreAt(1, 1), Check.NONE);
        x.bore(149);
        check.due("a less bore is ahead", x.shaftAt(0, 2), 2);
        check.due("then the greater is left", x.boreAt(0, 1), Check.NONE);
    }

    private static void boreAt() {
        Counted x = some();
        int[][] due = {{105, 2, 2, 2}, {201, Check.NONE, 0, 3}, {103, 0, 2, 4}, {105, Check.NONE, 2, 2}};
        for (int b = 0; b < due.length; b++) {
            for (int what = 0; what < 4; what++) {
                check.due("boreAt(" + b + ", " + what + ")", x.boreAt(b, what), due[b][what]);
            }
        }
        int[] fitted = {0, 2, 2, 0};
        int[] sizes = {101, 102, 105, 106};
        for (int i = 0; i < sizes.length; i++) {
            int b = x.bore(sizes[i]);
            check.due("how many a bore of " + sizes[i] + " fits", x.boreAt(b, 2), fitted[i]);
        }
        x.undo(4);
        check.due("boreAt(0, 4)", x.boreAt(0, 4), Check.OUTSIDE);
        check.due("boreAt(4, 0)", x.boreAt(4, 0), Check.UNKNOWN);
        check.due("boreAt(4, 4)", x.boreAt(4, 4), Check.UNKNOWN);
        for (int wild : Check.WILD) {
            check.due("boreAt(" + wild + ", 0)", x.boreAt(wild, 0), Check.UNKNOWN);
            check.due("boreAt(3, " + wild + ")", x.boreAt(3, wild), Check.OUTSIDE);
        }
    }

    private static void gradeAt() {
        Counted x = some();
        int[][] due = {{0, 0, 1}, {2, 5, 2}, {0, 0, 0}, {0, 0, 0}};
        for (int g = 0; g < due.length; g++) {
            for (int what = 0; what < 3; what++) {
                check.due("gradeAt(" + g + ", " + what + ")", x.gradeAt(g, what), due[g][what]);
            }
        }
        check.due("gradeAt(4, 0)", x.gradeAt(4, 0), Check.UNKNOWN);
        check.due("gradeAt(4, 3)", x.gradeAt(4, 3), Check.UNKNOWN);
        check.due("gradeAt(0, 3)", x.gradeAt(0, 3), Check.OUTSIDE);
        for (int wild : Check.WILD) {
            check.due("gradeAt(" + wild + ", 0)", x.gradeAt(wild, 0), Check.UNKNOWN);
            check.due("gradeAt(3, " + wild + ")", x.gradeAt(3, wild), Check.OUTSIDE);
        }
    }

    private static void sortIs(Counted x, int k, int... due) {
        for (int what = 0; what < 4; what++) {
            check.due("sort(" + k + ", " + what + ")", x.sort(k, what), due[what]);
        }
    }

    private static void sorts() {
        Counted x = some();
        sortIs(x, 0, 1, 100, 2, 2);
        sortIs(x, 1, 0, 200, 1, 1);
        sortIs(x, 2, 4, 105, 2, 2);
        sortIs(x, 3, 4, 201, 1, 1);
        sortIs(x, 4, 4, 103, 1, 1);
        check.due("sort(5, 0)", x.sort(5, 0), Check.UNKNOWN);
        check.due("sort(5, 4)", x.sort(5, 4), Check.UNKNOWN);
        check.due("sort(0, 4)", x.sort(0, 4), Check.OUTSIDE);
        for (int wild : Check.WILD) {
            check.due("sort(" + wild + ", 0)", x.sort(wild, 0), Check.UNKNOWN);
            check.due("sort(4, " + wild + ")", x.sort(4, wild), Check.OUTSIDE);
        }
    }

    private static void sortsWithNoneLeft() {
        Counted x = some();
        x.takeShaft(0);
        x.takeShaft(1);
        sortIs(x, 0, 1, 100, 0, 2);
        x.shaft(1, 100);
        sortIs(x, 0, 1, 100, 1, 3);
        check.due("it is no new sort", x.told(2), 5);
        x.shaft(2, 100);
        sortIs(x, 5, 2, 100, 1, 1);
        x.bore(100);
        sortIs(x, 6, 4, 100, 1, 1);
    }

    private static void find() {
        Counted x = some();
        check.due("find(1, 100)", x.find(1, 100), 0);
        check.due("find(0, 200)", x.find(0, 200), 1);
        check.due("find(4, 103)", x.find(4, 103), 4);
        check.due("find(0, 100)", x.find(0, 100), Check.NONE);
        check.due("find(4, 100)", x.find(4, 100), Check.NONE);
        check.due("find(3, 0)", x.find(3, 0), Check.NONE);
        check.due("find(4, 9999)", x.find(4, 9999), Check.NONE);
        x.takeShaft(1);
        check.due("find of what is gone", x.find(0, 200), 1);
        check.due("find(5, 100)", x.find(5, 100), Check.OUTSIDE);
        for (int wild : Check.WILD) {
            check.due("find(" + wild + ", 100)", x.find(wild, 100), Check.OUTSIDE);
            check.due("find(1, " + wild + ")", x.find(1, wild), Check.OUTSIDE);
        }
    }
}
