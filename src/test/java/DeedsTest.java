/** Promises 8 to 16: shaft, bore, takeShaft, takeBore, grade, putAway, batch, clear, undo. */
public final class DeedsTest {
    private static final Check check = new Check("DeedsTest");

    public static void main(String[] args) {
        shaft();
        shaftFull();
        bore();
        boreFull();
        sortsFull();
        takeShaft();
        takeBore();
        grade();
        putAway();
        batch();
        batchWithoutRoom();
        clear();
        undoEachDeed();
        undoRefused();
        undoSixteen();
        undoLeavesTheSeed();
        refusedChangesNothing();
        check.end();
    }

    private static void shaft() {
        Counted x = new Counted();
        check.due("shaft(0, 0)", x.shaft(0, 0), 0);
        check.due("shaft(3, 9999)", x.shaft(3, 9999), 1);
        check.due("shaft(3, 9999)", x.shaft(3, 9999), 2);
        check.due("its size", x.shaftAt(1, 1), 9999);
        check.due("its grade", x.shaftAt(1, 0), 3);
        check.due("shaft(4, 5)", x.shaft(4, 5), Check.UNKNOWN);
        check.due("shaft(4, -5)", x.shaft(4, -5), Check.UNKNOWN);
        for (int wild : Check.WILD) {
            check.due("shaft(" + wild + ", 5)", x.shaft(wild, 5), Check.UNKNOWN);
            check.due("shaft(0, " + wild + ")", x.shaft(0, wild), Check.OUTSIDE);
        }
        check.due("told(0)", x.told(0), 3);
        check.due("told(15)", x.told(15), 3);
    }

    private static void shaftFull() {
        Counted x = new Counted();
        for (int s = 0; s < 24; s++) {
            check.due("shaft(1, 77)", x.shaft(1, 77), s);
        }
        check.due("the 25th", x.shaft(1, 77), Check.FULL);
        check.due("a wrong grade first", x.shaft(4, 77), Check.UNKNOWN);
        check.due("a wrong size first", x.shaft(1, 10000), Check.OUTSIDE);
        check.due("bores have room", x.bore(77), 0);
        x.takeShaft(3);
        check.due("there is room again", x.shaft(1, 77), 23);
    }

    private static void bore() {
        Counted x = new Counted();
        check.due("bore(0)", x.bore(0), 0);
        check.due("bore(9999)", x.bore(9999), 1);
        check.due("bore(9999)", x.bore(9999), 2);
        check.due("its size", x.boreAt(1, 0), 9999);
        for (int wild : Check.WILD) {
            check.due("bore(" + wild + ")", x.bore(wild), Check.OUTSIDE);
        }
        check.due("told(1)", x.told(1), 3);
        check.due("told(15)", x.told(15), 3);
    }

    private static void boreFull() {
        Counted x = new Counted();
        for (int b = 0; b < 24; b++) {
            check.due("bore(77)", x.bore(77), b);
        }
        check.due("the 25th", x.bore(77), Check.FULL);
        check.due("a wrong size first", x.bore(10000), Check.OUTSIDE);
        check.due("shafts have room", x.shaft(0, 77), 0);
        x.takeBore(3);
        check.due("there is room again", x.bore(77), 23);
    }

    private static void sortsFull() {
        Counted x = new Counted();
        for (int i = 0; i < 24; i++) {
            x.shaft(i % 4, i);
        }
        for (int i = 0; i < 24; i++) {
            x.bore(i);
        }
        check.due("48 sorts", x.told(2), 48);
        x.takeShaft(5);
        x.takeBore(7);
        check.due("a 49th sort, of shafts", x.shaft(0, 100), Check.FULL);
        check.due("a 49th sort, of bores", x.bore(100), Check.FULL);
        check.due("a grade more of a size", x.shaft(0, 1), Check.FULL);
        check.due("one of a sort that there was", x.shaft(1, 5), 23);
        check.due("one of a sort that there was", x.bore(7), 23);
        check.due("its sort", x.shaftAt(23, 5), 5);
        check.due("its sort", x.boreAt(23, 3), 31);
        check.due("ever", x.sort(5, 3), 2);
        check.due("still 48 sorts", x.told(2), 48);
    }

    private static void takeShaft() {
        Counted x = new Counted();
        x.shaft(0, 10);
        x.shaft(1, 20);
        x.shaft(2, 30);
        check.due("takeShaft(3)", x.takeShaft(3), Check.UNKNOWN);
        for (int wild : Check.WILD) {
            check.due("takeShaft(" + wild + ")", x.takeShaft(wild), Check.UNKNOWN);
        }
        check.due("takeShaft(1)", x.takeShaft(1), 20);
        check.due("the later one's size", x.shaftAt(1, 1), 30);
        check.due("the later one's grade", x.shaftAt(1, 0), 2);
        check.due("the earlier one's size", x.shaftAt(0, 1), 10);
        check.due("takeShaft(2)", x.takeShaft(2), Check.UNKNOWN);
        check.due("takeShaft(1)", x.takeShaft(1), 30);
        check.due("takeShaft(0)", x.takeShaft(0), 10);
        check.due("takeShaft(0)", x.takeShaft(0), Check.UNKNOWN);
        check.due("sorts stay", x.told(2), 3);
    }

    private static void takeBore() {
        Counted x = new Counted();
        x.bore(10);
        x.bore(20);
        x.bore(30);
        check.due("takeBore(3)", x.takeBore(3), Check.UNKNOWN);
        for (int wild : Check.WILD) {
            check.due("takeBore(" + wild + ")", x.takeBore(wild), Check.UNKNOWN);
        }
        check.due("takeBore(0)", x.takeBore(0), 10);
        check.due("the later one's size", x.boreAt(0, 0), 20);
        check.due("takeBore(1)", x.takeBore(1), 30);
        check.due("takeBore(1)", x.takeBore(1), Check.UNKNOWN);
        check.due("takeBore(0)", x.takeBore(0), 20);
        check.due("takeBore(0)", x.takeBore(0), Check.UNKNOWN);
        check.due("sorts stay", x.told(2), 3);
    }

    private static void grade() {
        Counted x = new Counted();
        x.shaft(3, 500);
        x.bore(510);
        check.due("grade(3, 10, 10)", x.grade(3, 10, 10), 1);
        check.due("grade(3, 11, 999)", x.grade(3, 11, 999), 0);
        check.due("grade(3, 0, 999)", x.grade(3, 0, 999), 1);
        check.due("grade(3, 0, 0)", x.grade(3, 0, 0), 0);
        check.due("grade(3, 999, 999)", x.grade(3, 999, 999), 0);
        check.due("its least", x.gradeAt(3, 0), 999);
        check.due("its most", x.gradeAt(3, 1), 999);
        check.due("another's most", x.gradeAt(2, 1), 0);
        check.due("grade(3, 6, 5)", x.grade(3, 6, 5), Check.OUTSIDE);
        check.due("grade(3, 0, 1000)", x.grade(3, 0, 1000), Check.OUTSIDE);
        check.due("grade(3, 1000, 1000)", x.grade(3, 1000, 1000), Check.OUTSIDE);
        check.due("grade(4, 0, 1)", x.grade(4, 0, 1), Check.UNKNOWN);
        check.due("grade(4, 2, 1)", x.grade(4, 2, 1), Check.UNKNOWN);
        for (int wild : Check.WILD) {
            check.due("grade(" + wild + ", 0, 1)", x.grade(wild, 0, 1), Check.UNKNOWN);
            check.due("grade(0, " + wild + ", 999)", x.grade(0, wild, 999), Check.OUTSIDE);
            check.due("grade(0, 0, " + wild + ")", x.grade(0, 0, wild), Check.OUTSIDE);
        }
        check.due("its least is as it was", x.gradeAt(3, 0), 999);
    }

    private static void putAway() {
        Counted x = new Counted();
        check.due("putAway() of nothing", x.putAway(), Check.NOT);
        x.shaft(0, 10);
        x.shaft(0, 20);
        x.shaft(0, 30);
        x.shaft(0, 40);
        x.bore(40);
        x.bore(25);
        x.bore(50);
        x.bore(10);
        check.due("putAway()", x.putAway(), 2);
        check.due("told(0)", x.told(0), 2);
        check.due("told(1)", x.told(1), 2);
        check.due("a shaft that was left", x.shaftAt(0, 1), 20);
        check.due("a shaft that was left", x.shaftAt(1, 1), 30);
        check.due("a bore that was left", x.boreAt(0, 0), 25);
        check.due("a bore that was left", x.boreAt(1, 0), 50);
        check.due("sorts stay", x.told(2), 8);
        check.due("of a sort now", x.sort(0, 2), 0);
        check.due("of a sort ever", x.sort(0, 3), 1);
        int undoable = x.told(15);
        check.due("putAway() of none", x.putAway(), Check.NOT);
        check.due("that was no deed", x.told(15), undoable);
    }

    private static long drawnSeed = 0;

    private static int drawn(int n) {
        drawnSeed = (drawnSeed * 1103515245L + 12345L) & 0x7fffffffL;
        return (int) (drawnSeed / 65536 % n);
    }

    private static void batch() {
        for (int seed : new int[] {0, 1, 42, 65536, 1999999999, Integer.MAX_VALUE}) {
            Counted x = new Counted();
            x.seed(seed);
            drawnSeed = seed;
            check.due("batch(20)", x.batch(20), 20);
            int shafts = 0;
            int bores = 0;
            for (int i = 0; i < 20; i++) {
                int grade = drawn(5);
                int size = drawn(100) + 1000;
                if (grade == 4) {
                    check.due("seed " + seed + ": a bore's size", x.boreAt(bores++, 0), size);
                } else {
                    check.due("seed " + seed + ": a shaft's grade", x.shaftAt(shafts, 0), grade);
                    check.due("seed " + seed + ": a shaft's size", x.shaftAt(shafts++, 1), size);
                }
            }
            check.due("told(0)", x.told(0), shafts);
            check.due("told(1)", x.told(1), bores);
            check.due("one deed", x.told(15), 1);
            check.due("the seed then", x.seed(0), drawnSeed);
        }
        Counted x = new Counted();
        check.due("batch(1)", x.batch(1), 1);
        check.due("batch(0)", x.batch(0), Check.OUTSIDE);
        check.due("batch(21)", x.batch(21), Check.OUTSIDE);
        for (int wild : Check.WILD) {
            check.due("batch(" + wild + ")", x.batch(wild), Check.OUTSIDE);
        }
        check.due("parts", x.told(0) + x.told(1), 1);
    }

    private static void batchWithoutRoom() {
        Counted x = new Counted();
        int came = 0;
        for (int i = 0; i < 20; i++) {
            came += x.batch(20);
        }
        check.due("24 shafts", x.told(0), 24);
        check.due("24 bores", x.told(1), 24);
        check.due("all that came", came, 48);
        int before = x.seed(1);
        x.seed(before);
        check.due("none comes", x.batch(20), 0);
        int after = x.seed(1);
        drawnSeed = before;
        for (int i = 0; i < 20; i++) {
            drawn(5);
            drawn(100);
        }
        check.due("but it is drawn for them", after, drawnSeed);
        int ever = 0;
        for (int k = 0; k < x.told(2); k++) {
            ever += x.sort(k, 3);
        }
        check.due("what had no room counts in no sort", ever, 48);
    }

    private static void clear() {
        Counted x = new Counted();
        check.due("clear() of nothing", x.clear(), 0);
        check.due("is a deed", x.told(15), 1);
        x.grade(2, 3, 4);
        x.seed(99);
        x.see(2, 50, true);
        x.shaft(2, 50);
        x.shaft(2, 60);
        x.bore(70);
        check.due("clear()", x.clear(), 3);
        check.due("no shafts", x.told(0), 0);
        check.due("no bores", x.told(1), 0);
        check.due("no sorts", x.told(2), 0);
        check.due("no sort found", x.find(2, 50), Check.NONE);
        check.due("grades stay", x.gradeAt(2, 1), 4);
        check.due("what is seen stays", x.told(10), 1);
        check.due("the seed stays", x.seed(0), 99);
        x.bore(70);
        check.due("sorts from 0 on", x.find(4, 70), 0);
        check.due("ever since", x.sort(0, 3), 1);
    }

    private static void ready(Counted x) {
        x.grade(0, 0, 5);
        x.shaft(0, 100);
        x.shaft(1, 200);
        x.shaft(0, 300);
        x.bore(100);
        x.bore(400);
        x.keep(0);
    }

    private static void undone(String deed, Looks.Run run) {
        Counted x = new Counted();
        ready(x);
        run.on(x);
        check.due(deed + " is one deed", x.told(15), 1);
        check.due("undo of " + deed, x.undo(1), 5);
        Looks.Run doneAndUndone = y -> {
            ready(y);
            run.on(y);
            y.undo(1);
            // By itself undoing leaves THE SEED.
            y.seed(0);
        };
        check.alike("after undo of " + deed, doneAndUndone, DeedsTest::ready);
    }

    private static void undoEachDeed() {
        undone("shaft", x -> x.shaft(3, 1));
        undone("bore", x -> x.bore(1));
        undone("takeShaft", x -> x.takeShaft(0));
        undone("takeBore", x -> x.takeBore(1));
        undone("grade", x -> x.grade(0, 7, 9));
        undone("putAway", x -> x.putAway());
        undone("batch", x -> x.batch(20));
        undone("clear", x -> x.clear());
    }

    private static void undoRefused() {
        Counted x = new Counted();
        ready(x);
        check.due("undo(0)", x.undo(0), Check.OUTSIDE);
        check.due("undo(17)", x.undo(17), Check.OUTSIDE);
        check.due("undo(1)", x.undo(1), Check.NOT);
        check.due("undo(16)", x.undo(16), Check.NOT);
        for (int wild : Check.WILD) {
            check.due("undo(" + wild + ")", x.undo(wild), Check.OUTSIDE);
        }
        x.bore(1);
        x.bore(2);
        check.due("undo(3)", x.undo(3), Check.NOT);
        check.due("nothing is undone", x.told(1), 4);
        check.due("undo(2)", x.undo(2), 5);
        check.due("undo(1)", x.undo(1), Check.NOT);
    }

    private static void undoSixteen() {
        Counted x = new Counted();
        for (int i = 0; i < 20; i++) {
            x.bore(i);
            check.due("told(15)", x.told(15), Math.min(i + 1, 16));
        }
        check.due("undo(5)", x.undo(5), 15);
        check.due("told(15)", x.told(15), 11);
        check.due("the latest one", x.boreAt(14, 0), 14);
        x.shaft(0, 9);
        check.due("undo(12)", x.undo(12), 4);
        check.due("told(15)", x.told(15), 0);
        check.due("undo(1)", x.undo(1), Check.NOT);
        for (int i = 0; i < 16; i++) {
            x.bore(100);
        }
        check.due("undo(16)", x.undo(16), 4);
        check.due("sorts", x.told(2), 4);
    }

    private static void undoLeavesTheSeed() {
        Counted x = new Counted();
        x.batch(2);
        x.see(0, 5, true);
        drawnSeed = 0;
        for (int i = 0; i < 2; i++) {
            drawn(5);
            drawn(100);
        }
        x.undo(1);
        check.due("the seed stays", x.seed(0), drawnSeed);
        check.due("what is seen stays", x.told(10), 1);
    }

    private static void refusedChangesNothing() {
        Looks.Run some = x -> {
            ready(x);
            x.bore(7);
            x.see(1, 5, false);
        };
        check.alike("after refusals", Looks.both(some, DeedsTest::refusedCalls), some);
    }

    private static void refusedCalls(Counted x) {
        x.shaft(4, 1);
        x.shaft(0, -1);
        x.bore(10000);
        x.takeShaft(3);
        x.takeBore(3);
        x.grade(-1, 0, 1);
        x.grade(0, 2, 1);
        x.batch(21);
        x.undo(2);
        x.undo(0);
        x.see(4, 0, true);
        x.see(0, 10000, true);
        x.seed(-1);
        x.keep(2);
        x.goBack(1);
        x.goBack(-1);
    }
}
