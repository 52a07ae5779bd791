/** The sentences about DRAWS, what is UNDONE and IMAGES: each with none, one, as many as may be, and one more. */
public final class PastEdgesTest {
    private static final Check check = new Check("PastEdgesTest");

    public static void main(String[] args) {
        seedAtFirst();
        seedLeftOver();
        drawsOfFive();
        drawsOfAHundred();
        putIfThereIsRoom();
        drawnWithoutRoom();
        drawnWithoutRoomForASort();
        batchOfNoneIsADeed();
        eachDeedIsOne();
        refusedIsNoDeed();
        othersAreNoDeed();
        undoOne();
        undoSixteen();
        undoAsAhead();
        undoOfEachGrade();
        undoAroundTheRing();
        undoSinceTheImage();
        undoLeavesTheSeed();
        undoLeavesWhatIsSeen();
        imagesNoughtAndOne();
        imageKeepsPartsGradesSeed();
        imageOfEachGrade();
        imageOfNothing();
        imageOfAll();
        imageSorts();
        imageStaysAsKept();
        check.end();
    }

    private static final int MAX = Integer.MAX_VALUE;

    private static void seedAtFirst() {
        check.sentence("BY DRAWS: THE SEED (0 at first: each DRAW it becomes it times 1103515245 and 12345, left over by 2 to the 31; the DRAW of n is it / 65536, left over by n):");
        check.due("seed of a new object", new Counted().seed(0), 0);
        Counted x = new Counted();
        x.batch(5);
        int[][] due = {{0, 1068}, {3, 1017}, {3, 1027}, {0, 1041}, {2, 1010}};
        for (int s = 0; s < 5; s++) {
            check.due("grade of shaft " + s, x.shaftAt(s, 0), due[s][0]);
            check.due("size of shaft " + s, x.shaftAt(s, 1), due[s][1]);
        }
        check.due("the seed then", x.seed(0), 551188310);
    }

    /** Seeds whose first DRAW brings THE SEED to an end of its bounds, and what THE SEED is after two. */
    private static void seedLeftOver() {
        check.sentence("BY DRAWS: THE SEED (0 at first: each DRAW it becomes it times 1103515245 and 12345, left over by 2 to the 31; the DRAW of n is it / 65536, left over by n):");
        int[][] due = {{2088216195, 12345, 0, 1000}, {230538014, 1043980748, 2, 1029}, {520343481, 2087949151, 2, 1059},
            {2032319262, 212263372, 0, 1038}, {1742513795, 1315778617, 1, 1077}, {359704195, 136392761, 0, 1081}};
        for (int[] d : due) {
            Counted x = new Counted();
            x.seed(d[0]);
            check.due("batch(1) from " + d[0], x.batch(1), 1);
            check.due("grade", x.shaftAt(0, 0), d[2]);
            check.due("size", x.shaftAt(0, 1), d[3]);
            check.due("the seed then", x.seed(0), d[1]);
        }
        Counted x = new Counted();
        x.seed(MAX);
        x.batch(5);
        check.due("from the greatest: the first is a bore", x.boreAt(0, 0), 1009);
        check.due("then shafts", x.shaftAt(3, 1), 1034);
        check.due("the seed then", x.seed(0), 834541773);
    }

    private static void drawsOfFive() {
        check.sentence("n parts: for each a DRAW of 5: on 0 to 3 a SHAFT of that GRADE, on 4 a BORE;");
        int[][] cases = {{141, 0}, {1742513795, 1}, {230538014, 2}, {23, 3}, {160, 3}};
        for (int[] c : cases) {
            Counted x = new Counted();
            x.seed(c[0]);
            x.batch(1);
            check.due("a shaft from " + c[0], x.told(0), 1);
            check.due("no bore", x.told(1), 0);
            check.due("its grade", x.shaftAt(0, 0), c[1]);
        }
        for (int seed : new int[] {217, 613, 649509662, MAX}) {
            Counted x = new Counted();
            x.seed(seed);
            x.batch(1);
            check.due("no shaft from " + seed, x.told(0), 0);
            check.due("a bore", x.told(1), 1);
        }
    }

    private static void drawsOfAHundred() {
        check.sentence("a DRAW of 100, and 1000, is its SIZE;");
        int[][] shafts = {{1005, 1000}, {160, 1000}, {23, 1099}, {141, 1099}};
        for (int[] c : shafts) {
            Counted x = new Counted();
            x.seed(c[0]);
            x.batch(1);
            check.due("size of the shaft from " + c[0], x.shaftAt(0, 1), c[1]);
        }
        int[][] bores = {{217, 1000}, {613, 1099}};
        for (int[] c : bores) {
            Counted x = new Counted();
            x.seed(c[0]);
            x.batch(1);
            check.due("size of the bore from " + c[0], x.boreAt(0, 0), c[1]);
        }
    }

    /** From seed 0: SHAFTS of the GRADES 0, 3, 3, 0, 2. */
    private static void putIfThereIsRoom() {
        check.sentence("it is PUT, if there is room.");
        for (int there = 19; there <= 24; there++) {
            Counted x = new Counted();
            for (int i = 0; i < there; i++) {
                x.shaft(1, 5);
            }
            int room = Math.min(5, 24 - there);
            check.due("batch(5) on " + there, x.batch(5), room);
            check.due("shafts", x.told(0), there + room);
            check.due("sorts", x.told(2), 1 + room);
            check.due("the seed is drawn all the same", x.seed(0), 551188310);
        }
        Counted x = new Counted();
        for (int i = 0; i < 24; i++) {
            x.shaft(1, 5);
        }
        x.seed(MAX);
        check.due("a bore has room where shafts have none", x.batch(5), 1);
        check.due("its size", x.boreAt(0, 0), 1009);
        check.due("its sort", x.boreAt(0, 3), 1);
    }

    private static void drawnWithoutRoom() {
        check.sentence("it is PUT, if there is room.");
        Counted x = new Counted();
        for (int i = 0; i < 24; i++) {
            x.bore(5);
        }
        x.seed(217);
        check.due("no room for a bore", x.batch(1), 0);
        check.due("bores", x.told(1), 24);
        check.due("sorts", x.told(2), 1);
        check.due("the seed", x.seed(217), 1336998271);
        x.takeBore(0);
        check.due("room for one", x.batch(1), 1);
        check.due("its size", x.boreAt(23, 0), 1000);
    }

    /** SORTS of which none is left, so that there is room for parts, but for no other SORT. */
    private static Counted withSorts(int sorts) {
        Counted x = new Counted();
        for (int size = 0; size < sorts; size++) {
            x.bore(size);
            x.takeBore(0);
        }
        return x;
    }

    private static void drawnWithoutRoomForASort() {
        check.sentence("it is PUT, if there is room.");
        Counted x = withSorts(48);
        check.due("no room for a sort", x.batch(5), 0);
        check.due("shafts", x.told(0), 0);
        check.due("sorts", x.told(2), 48);
        check.due("the seed is drawn all the same", x.seed(0), 551188310);
        Counted y = withSorts(47);
        check.due("room for one sort", y.batch(5), 1);
        check.due("its grade, the first drawn", y.shaftAt(0, 0), 0);
        check.due("its sort", y.shaftAt(0, 5), 47);
        y.seed(0);
        check.due("another of that sort has room", y.batch(1), 1);
        check.due("how many there are", y.sort(47, 2), 2);
    }

    private static void batchOfNoneIsADeed() {
        check.sentence("UNDONE: the latest deeds (shaft(), bore(), takeShaft(), takeBore(), grade(), putAway(), batch(), clear()) since the IMAGE (16 at most are kept):");
        Counted x = new Counted();
        Scenes.full(x);
        x.keep(0);
        x.takeShaft(0);
        x.shaft(0, 0);
        check.due("none comes", x.batch(20), 0);
        check.due("it is a deed", x.told(15), 3);
        check.due("undone: nothing was changed", x.undo(1), 48);
        check.due("and the shaft", x.undo(1), 47);
        check.due("one is left", x.told(15), 1);
    }

    private static void eachDeedIsOne() {
        check.sentence("UNDONE: the latest deeds (shaft(), bore(), takeShaft(), takeBore(), grade(), putAway(), batch(), clear()) since the IMAGE (16 at most are kept):");
        Counted x = new Counted();
        x.shaft(0, 5);
        check.due("shaft", x.told(15), 1);
        x.bore(5);
        check.due("bore", x.told(15), 2);
        x.putAway();
        check.due("putAway", x.told(15), 3);
        x.batch(20);
        check.due("batch", x.told(15), 4);
        x.takeShaft(0);
        check.due("takeShaft", x.told(15), 5);
        x.takeBore(0);
        check.due("takeBore", x.told(15), 6);
        x.grade(0, 0, 0);
        check.due("grade, also if it is as it was", x.told(15), 7);
        x.clear();
        check.due("clear", x.told(15), 8);
        x.clear();
        check.due("clear, also of nothing", x.told(15), 9);
    }

    private static void refusedIsNoDeed() {
        check.sentence("UNDONE: the latest deeds (shaft(), bore(), takeShaft(), takeBore(), grade(), putAway(), batch(), clear()) since the IMAGE (16 at most are kept):");
        Counted x = new Counted();
        x.shaft(4, 0);
        x.shaft(0, 10000);
        x.bore(-1);
        x.takeShaft(0);
        x.takeBore(0);
        x.grade(0, 1, 0);
        x.putAway();
        x.batch(0);
        x.batch(21);
        check.due("nothing to undo", x.told(15), 0);
        check.due("undo(1)", x.undo(1), Check.NOT);
    }

    private static void othersAreNoDeed() {
        check.sentence("UNDONE: the latest deeds (shaft(), bore(), takeShaft(), takeBore(), grade(), putAway(), batch(), clear()) since the IMAGE (16 at most are kept):");
        Counted x = new Counted();
        x.bore(5);
        x.see(0, 5, true);
        x.forget();
        x.seed(4);
        for (int what = 0; what <= 15; what++) {
            x.told(what);
            x.boxes(what);
            x.crowd(what);
            x.withBore(what);
            x.find(0, what);
        }
        check.due("the bore alone", x.told(15), 1);
        check.due("undo(1)", x.undo(1), 0);
        check.due("undoing is none", x.told(15), 0);
    }

    private static void undoOne() {
        check.sentence("parts, SORTS, GRADES are as ahead of them; THE SEED stays.");
        Counted x = new Counted();
        x.grade(0, 1, 2);
        x.bore(5);
        check.due("undo(1)", x.undo(1), 0);
        check.due("sorts", x.told(2), 0);
        check.due("grade as it is", x.gradeAt(0, 1), 2);
        check.due("undo(1)", x.undo(1), 0);
        check.due("grade as it was", x.gradeAt(0, 1), 0);
        check.due("undo(1) of nothing", x.undo(1), Check.NOT);
    }

    private static void undoSixteen() {
        check.sentence("UNDONE: the latest deeds (shaft(), bore(), takeShaft(), takeBore(), grade(), putAway(), batch(), clear()) since the IMAGE (16 at most are kept):");
        for (int deeds = 14; deeds <= 18; deeds++) {
            int all = deeds;
            int kept = Math.min(16, deeds);
            Looks.Run done = x -> {
                for (int i = 0; i < all; i++) {
                    x.bore(i);
                }
            };
            Counted x = new Counted();
            done.on(x);
            check.due(deeds + " deeds: kept", x.told(15), kept);
            if (kept < 16) {
                check.refused(deeds + " deeds: undo(16)", done, y -> y.undo(16), Check.NOT);
                check.refused(deeds + " deeds: undo of one more", done, y -> y.undo(kept + 1), Check.NOT);
            }
            check.due(deeds + " deeds: undo of all", x.undo(kept), deeds - kept);
            check.due("kept then", x.told(15), 0);
            check.due("undo(1)", x.undo(1), Check.NOT);
            check.due("bores", x.told(1), deeds - kept);
            check.due("sorts", x.told(2), deeds - kept);
        }
    }

    private static void undoAsAhead() {
        check.sentence("parts, SORTS, GRADES are as ahead of them; THE SEED stays.");
        Looks.Run deeds = x -> {
            x.shaft(2, 300);
            x.bore(301);
            x.takeShaft(0);
            x.grade(2, 1, 5);
            x.takeBore(0);
            x.putAway();
            x.batch(20);
            x.clear();
            x.bore(9);
            x.seed(7);
        };
        // One deed less than 16 is left to undo in the scene, so that none of its deeds is lost.
        check.alike("nine at once", Looks.both(Scenes::some, Looks.both(deeds, x -> x.undo(9))), Scenes::some);
        Looks.Run oneByOne = x -> {
            for (int i = 0; i < 9; i++) {
                x.undo(1);
            }
        };
        check.alike("nine one by one", Looks.both(Scenes::some, Looks.both(deeds, oneByOne)), Scenes::some);
        Looks.Run clearOfAll = x -> {
            x.clear();
            x.undo(1);
        };
        Counted full = new Counted();
        Scenes.full(full);
        clearOfAll.on(full);
        check.due("sorts again", full.told(2), 48);
        check.due("the last sort", full.sort(47, 1), 230 + 999);
        check.due("pairs again", full.told(3), 24);
        check.due("one of 16 went for it", full.told(15), 15);
    }

    private static void undoOfEachGrade() {
        check.sentence("parts, SORTS, GRADES are as ahead of them; THE SEED stays.");
        for (int g = 0; g <= 3; g++) {
            Counted x = new Counted();
            x.grade(g, 4, 5);
            x.grade(g, 998, 999);
            check.due("undo(1) of grade " + g, x.undo(1), 0);
            check.due("least of grade " + g, x.gradeAt(g, 0), 4);
            check.due("most of grade " + g, x.gradeAt(g, 1), 5);
            x.undo(1);
            check.due("least of grade " + g, x.gradeAt(g, 0), 0);
            check.due("most of grade " + g, x.gradeAt(g, 1), 0);
        }
    }

    private static void undoAroundTheRing() {
        check.sentence("UNDONE: the latest deeds (shaft(), bore(), takeShaft(), takeBore(), grade(), putAway(), batch(), clear()) since the IMAGE (16 at most are kept):");
        Counted x = new Counted();
        int bores = 0;
        for (int round = 0; round < 7; round++) {
            for (int i = 0; i < 7; i++) {
                check.due("bore", x.bore(bores), bores);
                bores++;
            }
            check.due("undo(5)", x.undo(5), bores - 5);
            bores -= 5;
            check.due("the last one", x.boreAt(bores - 1, 0), bores - 1);
            check.due("kept", x.told(15), Math.min(bores, 11));
        }
        check.due("undo(11)", x.undo(11), bores - 11);
        check.due("kept", x.told(15), 0);
        check.due("the last one", x.boreAt(bores - 12, 0), bores - 12);
    }

    private static void undoSinceTheImage() {
        check.sentence("UNDONE: the latest deeds (shaft(), bore(), takeShaft(), takeBore(), grade(), putAway(), batch(), clear()) since the IMAGE (16 at most are kept):");
        Counted x = new Counted();
        x.bore(1);
        x.bore(2);
        x.keep(1);
        check.due("kept: nothing to undo", x.told(15), 0);
        check.due("undo(1)", x.undo(1), Check.NOT);
        x.bore(3);
        check.due("one since", x.told(15), 1);
        check.due("undo(2)", x.undo(2), Check.NOT);
        check.due("undo(1)", x.undo(1), 2);
        x.bore(3);
        x.goBack(1);
        check.due("gone back: nothing to undo", x.told(15), 0);
        check.due("undo(1)", x.undo(1), Check.NOT);
        check.due("bores", x.told(1), 2);
        x.clear();
        check.due("one since", x.undo(1), 2);
        for (int i = 0; i < 20; i++) {
            x.bore(4);
        }
        x.keep(0);
        x.takeBore(0);
        check.due("after 20 and an image: one", x.told(15), 1);
        check.due("undo(1)", x.undo(1), 22);
        check.due("undo(1)", x.undo(1), Check.NOT);
    }

    private static void undoLeavesTheSeed() {
        check.sentence("parts, SORTS, GRADES are as ahead of them; THE SEED stays.");
        Counted x = new Counted();
        x.batch(5);
        check.due("undo(1)", x.undo(1), 0);
        check.due("the seed as drawn", x.seed(9), 551188310);
        x.bore(1);
        x.seed(10);
        x.undo(1);
        check.due("the seed as told", x.seed(0), 10);
        x.batch(1);
        int first = x.shaftAt(0, 1);
        x.undo(1);
        x.seed(0);
        x.batch(1);
        check.due("from the same seed the same", x.shaftAt(0, 1), first);
    }

    private static void undoLeavesWhatIsSeen() {
        check.sentence("parts, SORTS, GRADES are as ahead of them; THE SEED stays.");
        Counted x = new Counted();
        x.grade(0, 5, 9);
        x.see(0, 100, true);
        x.undo(1);
        check.due("seen", x.told(10), 1);
        check.due("by the grade as it is then", x.told(12), 100);
    }

    private static void imagesNoughtAndOne() {
        check.sentence("IMAGES 0, 1 keep parts, GRADES, THE SEED");
        for (int i : new int[] {-1, 2, Integer.MIN_VALUE, MAX}) {
            check.refused("keep(" + i + ")", Scenes::some, x -> x.keep(i), Check.UNKNOWN);
            check.refused("goBack(" + i + ")", Scenes::some, x -> x.goBack(i), Check.UNKNOWN);
        }
        for (int i = 0; i <= 1; i++) {
            Counted x = new Counted();
            check.due("goBack(" + i + ") ahead of keep", x.goBack(i), Check.NOT);
            x.bore(5 + i);
            check.due("keep(" + i + ")", x.keep(i), 1);
            check.due("the other is not kept", x.goBack(1 - i), Check.NOT);
            x.clear();
            check.due("goBack(" + i + ")", x.goBack(i), 1);
            check.due("the bore", x.boreAt(0, 0), 5 + i);
            x.clear();
            x.keep(1 - i);
            check.due("goBack(" + i + ")", x.goBack(i), 1);
            check.due("not the other's", x.told(1), 1);
            check.due("goBack of the other", x.goBack(1 - i), 1);
            check.due("nor its own", x.told(1), 0);
        }
    }

    private static void imageKeepsPartsGradesSeed() {
        check.sentence("IMAGES 0, 1 keep parts, GRADES, THE SEED");
        Looks.Run kept = x -> {
            x.grade(0, 3, 4);
            x.grade(3, 0, 999);
            x.shaft(3, 9999);
            x.shaft(0, 0);
            x.bore(3);
            x.seed(MAX);
            x.keep(1);
        };
        Looks.Run since = x -> {
            x.batch(20);
            x.grade(0, 0, 0);
            x.grade(1, 5, 5);
            x.putAway();
            x.takeShaft(0);
            x.clear();
            x.shaft(2, 50);
            x.seed(1);
        };
        check.alike("gone back", Looks.both(kept, Looks.both(since, x -> x.goBack(1))), kept);
        check.alike("gone back at once", Looks.both(kept, x -> x.goBack(1)), kept);
    }

    private static void imageOfEachGrade() {
        check.sentence("IMAGES 0, 1 keep parts, GRADES, THE SEED");
        for (int g = 0; g <= 3; g++) {
            Counted x = new Counted();
            x.grade(g, 4, 5);
            x.keep(1);
            x.grade(g, 998, 999);
            x.goBack(1);
            check.due("least of grade " + g, x.gradeAt(g, 0), 4);
            check.due("most of grade " + g, x.gradeAt(g, 1), 5);
        }
    }

    private static void imageOfNothing() {
        check.sentence("IMAGES 0, 1 keep parts, GRADES, THE SEED");
        Looks.Run kept = x -> x.keep(0);
        Looks.Run goneBack = x -> {
            x.keep(0);
            x.batch(20);
            x.grade(2, 1, 2);
            x.goBack(0);
        };
        check.alike("gone back to nothing", goneBack, kept);
    }

    private static void imageOfAll() {
        check.sentence("IMAGES 0, 1 keep parts, GRADES, THE SEED");
        Counted x = new Counted();
        Scenes.full(x);
        x.keep(0);
        x.clear();
        x.goBack(0);
        check.due("shafts", x.told(0), 24);
        check.due("bores", x.told(1), 24);
        check.due("sorts", x.told(2), 48);
        check.due("pairs", x.told(3), 24);
        check.due("shaft 23", x.shaftAt(23, 1), 230);
        check.due("bore 23", x.boreAt(23, 0), 230 + 999);
        check.due("its sort", x.boreAt(23, 3), 47);
        check.due("no room", x.shaft(0, 0), Check.FULL);
    }

    private static void imageSorts() {
        check.sentence("(SORTS are anew by what there is then, in order: SHAFTS, then BORES).");
        Counted x = new Counted();
        x.bore(50);
        x.shaft(1, 60);
        x.bore(40);
        x.shaft(0, 60);
        x.bore(50);
        x.shaft(1, 60);
        x.shaft(3, 10);
        x.shaft(1, 60);
        x.takeShaft(4);
        x.takeShaft(2);
        x.takeShaft(0);
        x.keep(0);
        x.goBack(0);
        // What there is then: SHAFTS (0, 60), (3, 10), BORES 50, 40, 50.
        int[][] due = {{0, 60, 1, 1}, {3, 10, 1, 1}, {4, 50, 2, 2}, {4, 40, 1, 1}};
        check.due("sorts", x.told(2), due.length);
        for (int k = 0; k < due.length; k++) {
            for (int what = 0; what <= 3; what++) {
                check.due("sort(" + k + ", " + what + ")", x.sort(k, what), due[k][what]);
            }
        }
        check.due("find(1, 60)", x.find(1, 60), Check.NONE);
        check.due("a new one is behind", x.find(1, x.shaft(1, 60) == 2 ? 60 : 0), 4);
        Counted gone = new Counted();
        for (int i = 0; i < 48; i++) {
            gone.bore(i);
            gone.takeBore(0);
        }
        gone.keep(0);
        check.due("no room for a 49th sort", gone.bore(48), Check.FULL);
        gone.goBack(0);
        check.due("no sort", gone.told(2), 0);
        check.due("room again", gone.bore(48), 0);
    }

    private static void imageStaysAsKept() {
        check.sentence("IMAGES 0, 1 keep parts, GRADES, THE SEED");
        Counted x = new Counted();
        x.bore(5);
        x.keep(0);
        x.goBack(0);
        x.bore(6);
        x.grade(1, 2, 3);
        x.takeBore(0);
        x.seed(8);
        x.goBack(0);
        check.due("what was done since is not in it: bores", x.told(1), 1);
        check.due("the bore", x.boreAt(0, 0), 5);
        check.due("the grade", x.gradeAt(1, 1), 0);
        check.due("the seed", x.seed(0), 0);
        x.bore(6);
        x.grade(1, 4, 7);
        x.seed(9);
        x.keep(0);
        x.clear();
        x.grade(1, 0, 0);
        x.seed(10);
        x.goBack(0);
        check.due("kept anew: bores", x.told(1), 2);
        check.due("kept anew: the grade", x.gradeAt(1, 0), 4);
        check.due("kept anew: the seed", x.seed(0), 9);
    }
}
