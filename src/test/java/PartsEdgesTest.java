/** The sentences about parts, GRADES, SPANS and SORTS: each with what is just within and just without. */
public final class PartsEdgesTest {
    private static final Check check = new Check("PartsEdgesTest");
    private static final int[] NO_SIZES = {-1, 10000, Integer.MIN_VALUE, Integer.MAX_VALUE, 19999, -9999};

    public static void main(String[] args) {
        gradeOfAShaft();
        sizeOfAShaft();
        sizeOfABore();
        playOfAGrade();
        leastNotAboveMost();
        noPlayAtFirst();
        spanEnds();
        bothEndsAreIn();
        spanOfOneSize();
        twentyFourShafts();
        twentyFourBores();
        twentyFourOfEach();
        laterOnesHaveOneLess();
        laterBoresHaveOneLess();
        pairsByTheNumbersThen();
        shaftsOfOneGradeAndSize();
        boresOfOneSize();
        nearSortsAreTwo();
        sortsAfterCleared();
        sortsAfterTheImage();
        sortsInOrder();
        sortsWithNoneLeft();
        fortyEightSorts();
        fortyEightSortsWithNoPart();
        fortyEightSortsInABatch();
        check.end();
    }

    private static void gradeOfAShaft() {
        check.sentence("A SHAFT has a GRADE (0 .. 3) and a SIZE, a BORE a SIZE (0 .. 9999).");
        for (int g = 0; g <= 3; g++) {
            Counted x = new Counted();
            check.due("shaft(" + g + ", 5)", x.shaft(g, 5), 0);
            check.due("its grade", x.shaftAt(0, 0), g);
            for (int other = 0; other <= 3; other++) {
                check.due("shafts of grade " + other, x.gradeAt(other, 2), other == g ? 1 : 0);
            }
        }
        for (int g : new int[] {-1, 4, Integer.MIN_VALUE, Integer.MAX_VALUE}) {
            check.refused("shaft(" + g + ", 5)", Scenes::some, x -> x.shaft(g, 5), Check.UNKNOWN);
        }
    }

    private static void sizeOfAShaft() {
        check.sentence("A SHAFT has a GRADE (0 .. 3) and a SIZE, a BORE a SIZE (0 .. 9999).");
        for (int size : new int[] {0, 1, 9998, 9999}) {
            for (int g : new int[] {0, 3}) {
                Counted x = new Counted();
                check.due("shaft(" + g + ", " + size + ")", x.shaft(g, size), 0);
                check.due("its size", x.shaftAt(0, 1), size);
                check.due("its grade", x.shaftAt(0, 0), g);
                check.due("taken", x.takeShaft(0), size);
            }
        }
        for (int size : NO_SIZES) {
            check.refused("shaft(1, " + size + ")", Scenes::some, x -> x.shaft(1, size), Check.OUTSIDE);
        }
    }

    private static void sizeOfABore() {
        check.sentence("A SHAFT has a GRADE (0 .. 3) and a SIZE, a BORE a SIZE (0 .. 9999).");
        for (int size : new int[] {0, 1, 9998, 9999}) {
            Counted x = new Counted();
            check.due("bore(" + size + ")", x.bore(size), 0);
            check.due("its size", x.boreAt(0, 0), size);
            check.due("taken", x.takeBore(0), size);
        }
        for (int size : NO_SIZES) {
            check.refused("bore(" + size + ")", Scenes::some, x -> x.bore(size), Check.OUTSIDE);
        }
    }

    private static void playOfAGrade() {
        check.sentence("A GRADE has a LEAST and a MOST PLAY (0 .. 999,");
        int[][] within = {{0, 0}, {0, 1}, {0, 999}, {1, 999}, {998, 999}, {999, 999}};
        for (int[] play : within) {
            for (int g = 0; g <= 3; g++) {
                Counted x = new Counted();
                check.due("grade(" + g + ", " + play[0] + ", " + play[1] + ")", x.grade(g, play[0], play[1]), 0);
                check.due("its least", x.gradeAt(g, 0), play[0]);
                check.due("its most", x.gradeAt(g, 1), play[1]);
                check.due("another's least", x.gradeAt((g + 1) % 4, 0), 0);
                check.due("another's most", x.gradeAt((g + 1) % 4, 1), 0);
            }
        }
        int[][] without = {{-1, 0}, {-1, -1}, {0, 1000}, {1000, 1000}, {999, 1000}, {-1, 999}, {-1, 1000},
            {Integer.MIN_VALUE, 5}, {5, Integer.MAX_VALUE}, {Integer.MIN_VALUE, Integer.MAX_VALUE}};
        for (int[] play : without) {
            check.refused("grade(1, " + play[0] + ", " + play[1] + ")", Scenes::some,
                    x -> x.grade(1, play[0], play[1]), Check.OUTSIDE);
        }
    }

    private static void leastNotAboveMost() {
        check.sentence("the least is not above the most;");
        Counted x = new Counted();
        check.due("grade(0, 500, 500)", x.grade(0, 500, 500), 0);
        check.due("grade(0, 499, 500)", x.grade(0, 499, 500), 0);
        for (int least : new int[] {1, 2, 500, 999}) {
            int most = least - 1;
            check.refused("grade(0, " + least + ", " + most + ")", Scenes::some, y -> y.grade(0, least, most), Check.OUTSIDE);
        }
        check.refused("grade(0, 999, 0)", Scenes::full, y -> y.grade(0, 999, 0), Check.OUTSIDE);
    }

    private static void noPlayAtFirst() {
        check.sentence("0 and 0 at first).");
        Counted x = new Counted();
        for (int g = 0; g <= 3; g++) {
            check.due("least of grade " + g, x.gradeAt(g, 0), 0);
            check.due("most of grade " + g, x.gradeAt(g, 1), 0);
            x.shaft(g, 100 * g);
            check.due("begin", x.shaftAt(g, 3), 100 * g);
            check.due("end", x.shaftAt(g, 4), 100 * g);
        }
    }

    private static void spanEnds() {
        check.sentence("SPAN of a SHAFT: from its SIZE and LEAST to its SIZE and MOST:");
        int[][] cases = {{0, 0, 0}, {0, 0, 999}, {0, 999, 999}, {9999, 0, 0}, {9999, 0, 999}, {9999, 999, 999}, {500, 3, 7}};
        for (int[] c : cases) {
            Counted x = new Counted();
            x.shaft(2, c[0]);
            x.grade(2, c[1], c[2]);
            check.due("begin of " + c[0], x.shaftAt(0, 3), c[0] + c[1]);
            check.due("end of " + c[0], x.shaftAt(0, 4), c[0] + c[2]);
        }
    }

    private static void bothEndsAreIn() {
        check.sentence("a BORE FITS it, if its SIZE is in there (both ends are).");
        int[][] cases = {{100, 5, 10}, {0, 1, 3}, {9990, 2, 9}, {9000, 900, 999}};
        for (int[] c : cases) {
            for (int size = c[0] + c[1] - 1; size <= c[0] + c[2] + 1 && size <= 9999; size++) {
                int fits = c[0] + c[1] <= size && size <= c[0] + c[2] ? 1 : 0;
                Counted x = new Counted();
                x.grade(1, c[1], c[2]);
                x.shaft(1, c[0]);
                check.due("withBore(" + size + ")", x.withBore(size), fits);
                x.bore(size);
                check.due("pairs with a bore of " + size, x.told(3), fits);
                check.due("shafts it fits", x.boreAt(0, 2), fits);
                check.due("its shaft", x.boreAt(0, 1), fits - 1);
                check.due("the shaft's bore", x.shaftAt(0, 2), fits - 1);
                check.due("boxes(1)", x.boxes(1), fits);
            }
        }
    }

    private static void spanOfOneSize() {
        check.sentence("a BORE FITS it, if its SIZE is in there (both ends are).");
        for (int size : new int[] {0, 5000, 9999}) {
            Counted x = new Counted();
            x.shaft(0, size);
            for (int bore = Math.max(0, size - 1); bore <= Math.min(9999, size + 1); bore++) {
                check.due("shaft " + size + ", withBore(" + bore + ")", x.withBore(bore), bore == size ? 1 : 0);
            }
        }
        Counted x = new Counted();
        x.grade(0, 1, 1);
        x.shaft(0, 9999);
        check.due("a span that no bore is in", x.withBore(9999), 0);
    }

    private static void twentyFourShafts() {
        check.sentence("24 SHAFTS, 24 BORES at most;");
        Counted x = new Counted();
        check.due("none", x.told(0), 0);
        for (int s = 0; s < 24; s++) {
            check.due("room for shaft " + s, x.shaft(s % 4, 0), s);
            check.due("shafts", x.told(0), s + 1);
        }
        check.due("no room for shaft 24", x.shaft(0, 0), Check.FULL);
        check.due("shafts", x.told(0), 24);
        check.due("shaft 23", x.shaftAt(23, 0), 3);
        check.due("shaft 24", x.shaftAt(24, 0), Check.UNKNOWN);
        check.due("a bore has room", x.bore(0), 0);
        check.due("taken", x.takeShaft(23), 0);
        check.due("room again", x.shaft(1, 9), 23);
        check.due("and no more", x.shaft(1, 9), Check.FULL);
    }

    private static void twentyFourBores() {
        check.sentence("24 SHAFTS, 24 BORES at most;");
        Counted x = new Counted();
        check.due("none", x.told(1), 0);
        for (int b = 0; b < 24; b++) {
            check.due("room for bore " + b, x.bore(b % 4), b);
            check.due("bores", x.told(1), b + 1);
        }
        check.due("no room for bore 24", x.bore(0), Check.FULL);
        check.due("bores", x.told(1), 24);
        check.due("bore 23", x.boreAt(23, 0), 3);
        check.due("bore 24", x.boreAt(24, 0), Check.UNKNOWN);
        check.due("a shaft has room", x.shaft(0, 0), 0);
        check.due("taken", x.takeBore(0), 0);
        check.due("room again", x.bore(2), 23);
        check.due("and no more", x.bore(2), Check.FULL);
    }

    private static void twentyFourOfEach() {
        check.sentence("24 SHAFTS, 24 BORES at most;");
        Looks.Run alike = x -> {
            for (int i = 0; i < 24; i++) {
                x.shaft(0, 5);
                x.bore(5);
            }
        };
        Counted x = new Counted();
        alike.on(x);
        check.due("pairs", x.told(3), 24);
        check.due("two sorts", x.told(2), 2);
        check.due("ever", x.sort(1, 3), 24);
        check.due("in one box", x.boxes(1), 24);
        check.refused("shaft(0, 5)", alike, y -> y.shaft(0, 5), Check.FULL);
        check.refused("shaft(1, 6)", alike, y -> y.shaft(1, 6), Check.FULL);
        check.refused("bore(5)", alike, y -> y.bore(5), Check.FULL);
        check.refused("bore(6)", alike, y -> y.bore(6), Check.FULL);
    }

    /** Which of four goes: the first, one between, the last. */
    private static void laterOnesHaveOneLess() {
        check.sentence("each is numbered among its like as they come; if one goes, later ones have one number less.");
        for (int gone = 0; gone < 4; gone++) {
            Counted x = new Counted();
            for (int s = 0; s < 4; s++) {
                x.bore(7);
                check.due("numbered among its like", x.shaft(s, 10 * s), s);
            }
            check.due("takeShaft(" + gone + ")", x.takeShaft(gone), 10 * gone);
            for (int s = 0; s < 3; s++) {
                int was = s < gone ? s : s + 1;
                check.due("size of shaft " + s, x.shaftAt(s, 1), 10 * was);
                check.due("grade of shaft " + s, x.shaftAt(s, 0), was);
                check.due("sort of shaft " + s, x.shaftAt(s, 5), was == 0 ? 1 : was + 1);
            }
            check.due("shaft 3", x.shaftAt(3, 1), Check.UNKNOWN);
            check.due("bores", x.told(1), 4);
            check.due("the next", x.shaft(0, 99), 3);
        }
    }

    private static void laterBoresHaveOneLess() {
        check.sentence("each is numbered among its like as they come; if one goes, later ones have one number less.");
        for (int gone = 0; gone < 4; gone++) {
            Counted x = new Counted();
            for (int b = 0; b < 4; b++) {
                x.shaft(0, 7);
                check.due("numbered among its like", x.bore(10 * b), b);
            }
            check.due("takeBore(" + gone + ")", x.takeBore(gone), 10 * gone);
            for (int b = 0; b < 3; b++) {
                int was = b < gone ? b : b + 1;
                check.due("size of bore " + b, x.boreAt(b, 0), 10 * was);
                check.due("sort of bore " + b, x.boreAt(b, 3), was + 1);
            }
            check.due("bore 3", x.boreAt(3, 0), Check.UNKNOWN);
            check.due("shafts", x.told(0), 4);
            check.due("the next", x.bore(99), 3);
        }
    }

    private static void pairsByTheNumbersThen() {
        check.sentence("each is numbered among its like as they come; if one goes, later ones have one number less.");
        Counted x = new Counted();
        x.shaft(0, 10);
        x.shaft(0, 20);
        x.bore(30);
        x.bore(20);
        check.due("bore of shaft 1", x.shaftAt(1, 2), 1);
        x.takeShaft(0);
        check.due("bore of shaft 0", x.shaftAt(0, 2), 1);
        check.due("shaft of bore 1", x.boreAt(1, 1), 0);
        x.takeBore(0);
        check.due("bore of shaft 0", x.shaftAt(0, 2), 0);
        check.due("shaft of bore 0", x.boreAt(0, 1), 0);
    }

    private static void sortIs(Counted x, int k, int... due) {
        for (int what = 0; what <= 3; what++) {
            check.due("sort(" + k + ", " + what + ")", x.sort(k, what), due[what]);
        }
    }

    private static void shaftsOfOneGradeAndSize() {
        check.sentence("A SORT: all SHAFTS of one GRADE and SIZE, or all BORES of one SIZE,");
        Counted x = new Counted();
        check.due("no sort", x.told(2), 0);
        check.due("no sort 0", x.sort(0, 0), Check.UNKNOWN);
        x.shaft(1, 50);
        sortIs(x, 0, 1, 50, 1, 1);
        x.shaft(1, 50);
        sortIs(x, 0, 1, 50, 2, 2);
        check.due("one sort", x.told(2), 1);
        x.shaft(2, 50);
        sortIs(x, 1, 2, 50, 1, 1);
        x.shaft(1, 51);
        sortIs(x, 2, 1, 51, 1, 1);
        sortIs(x, 0, 1, 50, 2, 2);
        check.due("three sorts", x.told(2), 3);
        x.grade(1, 4, 9);
        check.due("play makes no sort", x.told(2), 3);
    }

    private static void boresOfOneSize() {
        check.sentence("A SORT: all SHAFTS of one GRADE and SIZE, or all BORES of one SIZE,");
        Counted x = new Counted();
        x.bore(50);
        x.bore(50);
        sortIs(x, 0, 4, 50, 2, 2);
        x.bore(51);
        sortIs(x, 1, 4, 51, 1, 1);
        for (int g = 0; g <= 3; g++) {
            x.shaft(g, 50);
            sortIs(x, 2 + g, g, 50, 1, 1);
        }
        sortIs(x, 0, 4, 50, 2, 2);
    }

    /** The greatest SIZE of a GRADE and the least of the next. */
    private static void nearSortsAreTwo() {
        check.sentence("A SORT: all SHAFTS of one GRADE and SIZE, or all BORES of one SIZE,");
        Counted x = new Counted();
        for (int g = 0; g <= 3; g++) {
            x.shaft(g, 9999);
            x.shaft(g, 0);
        }
        x.bore(9999);
        x.bore(0);
        check.due("sorts", x.told(2), 10);
        for (int g = 0; g <= 4; g++) {
            sortIs(x, 2 * g, g, 9999, 1, 1);
            sortIs(x, 2 * g + 1, g, 0, 1, 1);
            check.due("find(" + g + ", 9999)", x.find(g, 9999), 2 * g);
            check.due("find(" + g + ", 0)", x.find(g, 0), 2 * g + 1);
            check.due("find(" + g + ", 10000)", x.find(g, 10000), Check.OUTSIDE);
            check.due("find(" + g + ", -1)", x.find(g, -1), Check.OUTSIDE);
        }
    }

    private static void sortsAfterCleared() {
        check.sentence("that there are or were since the latest CLEARED (or the IMAGE);");
        Counted x = new Counted();
        x.shaft(0, 1);
        x.bore(2);
        x.clear();
        check.due("none", x.told(2), 0);
        check.due("sort(0, 0)", x.sort(0, 0), Check.UNKNOWN);
        check.due("find(0, 1)", x.find(0, 1), Check.NONE);
        x.bore(2);
        sortIs(x, 0, 4, 2, 1, 1);
        x.takeBore(0);
        sortIs(x, 0, 4, 2, 0, 1);
        x.undo(3);
        check.due("as ahead of clear()", x.told(2), 2);
        sortIs(x, 1, 4, 2, 1, 1);
    }

    private static void sortsAfterTheImage() {
        check.sentence("that there are or were since the latest CLEARED (or the IMAGE);");
        Counted x = new Counted();
        x.bore(8);
        x.bore(9);
        x.shaft(3, 1);
        x.shaft(3, 1);
        x.shaft(3, 1);
        x.takeShaft(2);
        x.takeBore(0);
        x.keep(0);
        x.shaft(2, 2);
        x.goBack(0);
        check.due("only what there is", x.told(2), 2);
        sortIs(x, 0, 3, 1, 2, 2);
        sortIs(x, 1, 4, 9, 1, 1);
        check.due("find(4, 8)", x.find(4, 8), Check.NONE);
        check.due("find(2, 2)", x.find(2, 2), Check.NONE);
        x.takeBore(0);
        sortIs(x, 1, 4, 9, 0, 1);
    }

    private static void sortsInOrder() {
        check.sentence("SORTS are numbered as their first one came, also if there is none of it left;");
        Counted x = new Counted();
        x.bore(30);
        x.shaft(1, 20);
        x.bore(10);
        x.bore(30);
        x.shaft(0, 20);
        x.shaft(1, 20);
        int[][] due = {{4, 30, 2, 2}, {1, 20, 2, 2}, {4, 10, 1, 1}, {0, 20, 1, 1}};
        check.due("sorts", x.told(2), 4);
        for (int k = 0; k < due.length; k++) {
            sortIs(x, k, due[k]);
        }
        check.due("sort of bore 2", x.boreAt(2, 3), 0);
        check.due("sort of shaft 2", x.shaftAt(2, 5), 1);
    }

    private static void sortsWithNoneLeft() {
        check.sentence("SORTS are numbered as their first one came, also if there is none of it left;");
        Counted x = new Counted();
        x.bore(30);
        x.shaft(1, 20);
        x.bore(10);
        x.takeBore(0);
        sortIs(x, 0, 4, 30, 0, 1);
        sortIs(x, 2, 4, 10, 1, 1);
        check.due("find(4, 30)", x.find(4, 30), 0);
        check.due("sort of bore 0", x.boreAt(0, 3), 2);
        x.bore(30);
        sortIs(x, 0, 4, 30, 1, 2);
        check.due("sorts", x.told(2), 3);
        x.takeBore(1);
        x.takeBore(0);
        x.takeShaft(0);
        check.due("no part at all: find(4, 30)", x.find(4, 30), 0);
        check.due("no part at all: find(1, 20)", x.find(1, 20), 1);
        check.due("no part at all: find(4, 10)", x.find(4, 10), 2);
    }

    private static void fortyEightSorts() {
        check.sentence("48 SORTS at most.");
        Looks.Run fortySeven = x -> {
            for (int i = 0; i < 24; i++) {
                x.shaft(i % 4, i);
            }
            for (int i = 0; i < 23; i++) {
                x.bore(i);
            }
            x.takeShaft(0);
            x.takeBore(0);
            x.takeBore(0);
        };
        Counted x = new Counted();
        fortySeven.on(x);
        check.due("47 sorts", x.told(2), 47);
        check.due("the 48th", x.bore(9999), 21);
        check.due("48 sorts", x.told(2), 48);
        sortIs(x, 47, 4, 9999, 1, 1);
        check.due("one of a sort there is", x.bore(9999), 22);
        check.due("one of a sort with none left", x.shaft(0, 0), 23);
        sortIs(x, 0, 0, 0, 1, 2);
        Looks.Run fortyEight = Looks.both(fortySeven, y -> y.shaft(3, 9999));
        check.refused("the 49th, a bore", fortyEight, y -> y.bore(500), Check.FULL);
        check.refused("the 49th, a bore of a shaft's size", fortyEight, y -> y.bore(23), Check.FULL);
        Looks.Run withRoom = Looks.both(fortyEight, y -> y.takeShaft(0));
        check.refused("the 49th, a shaft", withRoom, y -> y.shaft(0, 500), Check.FULL);
        check.refused("the 49th, a shaft of another grade", withRoom, y -> y.shaft(0, 1), Check.FULL);
    }

    private static void fortyEightSortsWithNoPart() {
        check.sentence("48 SORTS at most.");
        Looks.Run gone = x -> {
            for (int i = 0; i < 48; i++) {
                check.due("bore(" + i + ")", x.bore(i), 0);
                x.takeBore(0);
            }
        };
        Counted x = new Counted();
        gone.on(x);
        check.due("no bores", x.told(1), 0);
        check.due("48 sorts", x.told(2), 48);
        check.due("bore(47)", x.bore(47), 0);
        check.refused("bore(48)", gone, y -> y.bore(48), Check.FULL);
        check.refused("shaft(0, 0)", gone, y -> y.shaft(0, 0), Check.FULL);
        x.clear();
        check.due("cleared: bore(48)", x.bore(48), 0);
        check.due("one sort", x.told(2), 1);
    }

    private static void fortyEightSortsInABatch() {
        check.sentence("48 SORTS at most.");
        Looks.Run gone = x -> {
            for (int i = 0; i < 48; i++) {
                x.bore(i);
                x.takeBore(0);
            }
        };
        Counted x = new Counted();
        gone.on(x);
        check.due("none comes", x.batch(20), 0);
        check.due("no part", x.told(0) + x.told(1), 0);
        check.due("48 sorts", x.told(2), 48);
        Counted y = new Counted();
        for (int i = 0; i < 47; i++) {
            y.bore(i);
            y.takeBore(0);
        }
        int came = y.batch(20);
        check.due("48 sorts", y.told(2), 48);
        check.due("those alike came", y.sort(47, 2), came);
        check.due("all that there are", y.told(0) + y.told(1), came);
    }
}
