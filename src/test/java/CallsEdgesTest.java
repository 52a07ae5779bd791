import java.util.List;

/** Promises 1 to 24, a test each: the first and last number that is within, those just without, all that is refused. */
public final class CallsEdgesTest {
    private static final Check check = new Check("CallsEdgesTest");
    private static final int MIN = Integer.MIN_VALUE;
    private static final int MAX = Integer.MAX_VALUE;
    private static final List<Looks.Run> SCENES = List.of(Scenes::empty, Scenes::some, Scenes::full);
    private static final int[] SHAFTS = {0, 3, 24};
    private static final int[] BORES = {0, 4, 24};
    private static final int[] SORTS = {0, 8, 48};

    public static void main(String[] args) {
        newObject();
        told();
        toldNone();
        shaftAt();
        boreAt();
        gradeAt();
        sort();
        find();
        shaft();
        bore();
        takeShaft();
        takeBore();
        grade();
        putAway();
        batch();
        clear();
        undo();
        crowd();
        boxes();
        withBore();
        see();
        forget();
        seed();
        keep();
        goBack();
        check.end();
    }

    private static Counted after(Looks.Run run) {
        Counted x = new Counted();
        run.on(x);
        return x;
    }

    /** A call with one number that has bounds: refused just below, just above and far off, in every scene. */
    private interface Asked {
        int on(Counted x, int number);
    }

    private static void bounds(String call, Asked asked, int first, int last, int refusal) {
        for (Looks.Run scene : SCENES) {
            for (int number : new int[] {first - 1, last + 1, MIN, MAX, -last - 1}) {
                if (number < first || number > last) {
                    check.refused(call + " with " + number, scene, x -> asked.on(x, number), refusal);
                }
            }
            check.holds(call + " with " + first + " is within", asked.on(after(scene), first) != refusal);
            check.holds(call + " with " + last + " is within", asked.on(after(scene), last) != refusal);
        }
    }

    /** A call with the number of one that may not be there: how many there are by scene. */
    private static void numbers(String call, Asked asked, int[] counts) {
        for (int i = 0; i < counts.length; i++) {
            for (int number : new int[] {-1, counts[i], counts[i] + 1, MIN, MAX}) {
                check.refused(call + " with " + number + " of " + counts[i], SCENES.get(i),
                        x -> asked.on(x, number), Check.UNKNOWN);
            }
            if (counts[i] > 0) {
                int last = counts[i] - 1;
                check.holds(call + " with 0 is known", asked.on(after(SCENES.get(i)), 0) != Check.UNKNOWN);
                check.holds(call + " with " + last + " is known", asked.on(after(SCENES.get(i)), last) != Check.UNKNOWN);
            }
        }
    }

    private static void newObject() {
        check.sentence("`BoreSpans()`: No parts.");
        Counted x = new Counted();
        for (int what = 0; what <= 5; what++) {
            check.due("told(" + what + ")", x.told(what), 0);
        }
        check.due("told(10)", x.told(10), 0);
        check.due("told(15)", x.told(15), 0);
        check.due("shaftAt(0, 0)", x.shaftAt(0, 0), Check.UNKNOWN);
        check.due("boreAt(0, 0)", x.boreAt(0, 0), Check.UNKNOWN);
        check.due("sort(0, 0)", x.sort(0, 0), Check.UNKNOWN);
        check.due("goBack(0)", x.goBack(0), Check.NOT);
        check.due("goBack(1)", x.goBack(1), Check.NOT);
        check.due("clear()", x.clear(), 0);
        x.bore(5);
        check.due("another object has its own", new Counted().told(1), 0);
    }

    private static void told() {
        check.sentence("`int told(int what)`: 0 SHAFTS, 1 BORES, 2 SORTS, 3 PAIRS, 4 SHAFTS left, 5 BORES left, 6 the least PLAY of a PAIR, 7 the greatest (6, 7: NONE), 8 EASE, 9 MORE, 10 what is SEEN, 11 SIZES: how many, 12 the least, 13 the greatest, 14 TRY, 15 how many can be undone. OUTSIDE.");
        // SPANS 100..105, 210..220, 300..305; BORES 400, 103, 215, 105; SEEN: 100..105, not 95..105.
        int[] some = {3, 4, 8, 2, 1, 2, 3, 15, 95, 300, 2, 0, Check.NONE, Check.NONE, Check.NONE, 5};
        int[] full = {24, 24, 48, 24, 0, 0, 0, 999, 0, Check.NONE, 6, 1, 0, 0, Check.NONE, 16};
        for (int what = 0; what <= 15; what++) {
            check.due("some: told(" + what + ")", after(Scenes::some).told(what), some[what]);
            check.due("full: told(" + what + ")", after(Scenes::full).told(what), full[what]);
        }
        bounds("told", Counted::told, 0, 15, Check.OUTSIDE);
    }

    private static void toldNone() {
        check.sentence("7 the greatest (6, 7: NONE),");
        Counted x = new Counted();
        int[] due = {0, 0, 0, 0, 0, 0, Check.NONE, Check.NONE, 0, Check.NONE, 0, 10000, 0, 9999, Check.NONE, 0};
        for (int what = 0; what <= 15; what++) {
            check.due("nothing: told(" + what + ")", x.told(what), due[what]);
        }
    }

    private static void shaftAt() {
        check.sentence("`int shaftAt(int s, int what)`: Of a SHAFT: what = 0 GRADE, 1 SIZE, 2 the BORE it is PAIRED with (NONE), 3, 4 where its SPAN begins, ends, 5 its SORT. UNKNOWN, OUTSIDE.");
        int[][] due = {{0, 100, 1, 100, 105, 0}, {1, 200, 2, 210, 220, 1}, {0, 300, Check.NONE, 300, 305, 5}};
        Counted x = after(Scenes::some);
        for (int s = 0; s < 3; s++) {
            for (int what = 0; what <= 5; what++) {
                check.due("shaftAt(" + s + ", " + what + ")", x.shaftAt(s, what), due[s][what]);
            }
        }
        int[] last = {3, 230, 23, 1229, 1229, 46};
        for (int what = 0; what <= 5; what++) {
            check.due("full: shaftAt(23, " + what + ")", after(Scenes::full).shaftAt(23, what), last[what]);
        }
        numbers("shaftAt(s, 5)", (y, s) -> y.shaftAt(s, 5), SHAFTS);
        for (int what : new int[] {-1, 6, MIN, MAX}) {
            check.refused("shaftAt(0, " + what + ")", Scenes::some, y -> y.shaftAt(0, what), Check.OUTSIDE);
            check.refused("shaftAt(23, " + what + ")", Scenes::full, y -> y.shaftAt(23, what), Check.OUTSIDE);
            check.refused("shaftAt(3, " + what + ")", Scenes::some, y -> y.shaftAt(3, what), Check.UNKNOWN);
        }
    }

    private static void boreAt() {
        check.sentence("`int boreAt(int b, int what)`: Of a BORE: what = 0 SIZE, 1 the SHAFT it is PAIRED with (NONE), 2 how many SHAFTS it FITS, 3 its SORT. UNKNOWN, OUTSIDE.");
        int[][] due = {{400, Check.NONE, 0, 2}, {103, 0, 1, 3}, {215, 1, 1, 6}, {105, Check.NONE, 1, 7}};
        Counted x = after(Scenes::some);
        for (int b = 0; b < 4; b++) {
            for (int what = 0; what <= 3; what++) {
                check.due("boreAt(" + b + ", " + what + ")", x.boreAt(b, what), due[b][what]);
            }
        }
        Counted all = new Counted();
        all.bore(5);
        for (int i = 0; i < 24; i++) {
            check.due("how many it fits", all.boreAt(0, 2), i);
            all.shaft(i % 4, 5);
        }
        check.due("all 24", all.boreAt(0, 2), 24);
        numbers("boreAt(b, 3)", (y, b) -> y.boreAt(b, 3), BORES);
        for (int what : new int[] {-1, 4, MIN, MAX}) {
            check.refused("boreAt(0, " + what + ")", Scenes::some, y -> y.boreAt(0, what), Check.OUTSIDE);
            check.refused("boreAt(23, " + what + ")", Scenes::full, y -> y.boreAt(23, what), Check.OUTSIDE);
            check.refused("boreAt(4, " + what + ")", Scenes::some, y -> y.boreAt(4, what), Check.UNKNOWN);
        }
    }

    private static void gradeAt() {
        check.sentence("`int gradeAt(int g, int what)`: Of a GRADE: what = 0 LEAST, 1 MOST PLAY, 2 how many SHAFTS. UNKNOWN, OUTSIDE.");
        int[][] due = {{0, 5, 2}, {10, 20, 1}, {0, 0, 0}, {0, 0, 0}};
        Counted x = after(Scenes::some);
        for (int g = 0; g <= 3; g++) {
            for (int what = 0; what <= 2; what++) {
                check.due("gradeAt(" + g + ", " + what + ")", x.gradeAt(g, what), due[g][what]);
            }
        }
        Counted all = new Counted();
        for (int i = 0; i < 24; i++) {
            all.shaft(3, i);
            check.due("shafts of grade 3", all.gradeAt(3, 2), i + 1);
        }
        check.due("shafts of grade 0", all.gradeAt(0, 2), 0);
        bounds("gradeAt(g, 0)", (y, g) -> y.gradeAt(g, 0), 0, 3, Check.UNKNOWN);
        bounds("gradeAt(3, what)", (y, what) -> y.gradeAt(3, what), 0, 2, Check.OUTSIDE);
        bounds("gradeAt(g, 3)", (y, g) -> y.gradeAt(g, 3), 0, 3, Check.UNKNOWN);
    }

    private static void sort() {
        check.sentence("`int sort(int k, int what)`: Of a SORT: what = 0 GRADE (4: BORES), 1 SIZE, 2 how many there are now, 3 how many there were ever. UNKNOWN, OUTSIDE.");
        int[][] due = {{0, 100, 1, 1}, {1, 200, 1, 1}, {4, 400, 1, 1}, {4, 103, 1, 1}, {2, 300, 0, 1}, {0, 300, 1, 1},
            {4, 215, 1, 1}, {4, 105, 1, 1}};
        Counted x = after(Scenes::some);
        for (int k = 0; k < due.length; k++) {
            for (int what = 0; what <= 3; what++) {
                check.due("sort(" + k + ", " + what + ")", x.sort(k, what), due[k][what]);
            }
        }
        Counted again = new Counted();
        for (int i = 1; i <= 30; i++) {
            again.bore(5);
            check.due("now", again.sort(0, 2), 1);
            again.takeBore(0);
            check.due("none now", again.sort(0, 2), 0);
            check.due("ever", again.sort(0, 3), i);
        }
        again.undo(2);
        check.due("ever, one undone", again.sort(0, 3), 29);
        numbers("sort(k, 0)", (y, k) -> y.sort(k, 0), SORTS);
        for (int what : new int[] {-1, 4, MIN, MAX}) {
            check.refused("sort(0, " + what + ")", Scenes::some, y -> y.sort(0, what), Check.OUTSIDE);
            check.refused("sort(47, " + what + ")", Scenes::full, y -> y.sort(47, what), Check.OUTSIDE);
            check.refused("sort(8, " + what + ")", Scenes::some, y -> y.sort(8, what), Check.UNKNOWN);
        }
    }

    private static void find() {
        check.sentence("`int find(int grade, int size)`: The SORT of SHAFTS of a GRADE (0 .. 3), or of BORES (4), and of a SIZE; NONE: there is no such one. OUTSIDE.");
        check.due("nothing: find(0, 0)", after(Scenes::empty).find(0, 0), Check.NONE);
        check.due("nothing: find(4, 9999)", after(Scenes::empty).find(4, 9999), Check.NONE);
        Counted x = after(Scenes::some);
        check.due("find(0, 100)", x.find(0, 100), 0);
        check.due("find(1, 100)", x.find(1, 100), Check.NONE);
        check.due("find(4, 100)", x.find(4, 100), Check.NONE);
        check.due("find(0, 99)", x.find(0, 99), Check.NONE);
        check.due("find(0, 101)", x.find(0, 101), Check.NONE);
        check.due("find(2, 300), none left", x.find(2, 300), 4);
        check.due("find(4, 104), undone", x.find(4, 104), Check.NONE);
        check.due("find(4, 105)", x.find(4, 105), 7);
        check.due("full: find(4, 1229)", after(Scenes::full).find(4, 1229), 47);
        bounds("find(grade, 0)", (y, g) -> y.find(g, 0), 0, 4, Check.OUTSIDE);
        bounds("find(0, size)", (y, size) -> y.find(0, size), 0, 9999, Check.OUTSIDE);
        bounds("find(4, size)", (y, size) -> y.find(4, size), 0, 9999, Check.OUTSIDE);
        check.due("both", x.find(5, 10000), Check.OUTSIDE);
    }

    private static void shaft() {
        check.sentence("`int shaft(int g, int size)`: PUT: its number. UNKNOWN, OUTSIDE, FULL (24 SHAFTS; 48 SORTS, if it were a new one).");
        check.due("the first", after(Scenes::empty).shaft(3, 9999), 0);
        check.due("the fourth", after(Scenes::some).shaft(0, 0), 3);
        check.refused("the 25th", Scenes::full, x -> x.shaft(0, 0), Check.FULL);
        Looks.Run room = Looks.both(Scenes::full, x -> x.takeShaft(0));
        check.due("of a sort there was", after(room).shaft(0, 0), 23);
        check.due("of a sort there is", after(room).shaft(1, 10), 23);
        check.refused("of a new sort by size", room, x -> x.shaft(0, 1), Check.FULL);
        check.refused("of a new sort by grade", room, x -> x.shaft(1, 0), Check.FULL);
        bounds("shaft(g, 9999)", (x, g) -> x.shaft(g, 9999), 0, 3, Check.UNKNOWN);
        bounds("shaft(3, size)", (x, size) -> x.shaft(3, size), 0, 9999, Check.OUTSIDE);
    }

    private static void bore() {
        check.sentence("`int bore(int size)`: PUT: its number. OUTSIDE, FULL (24 BORES; 48 SORTS, if it were a new one).");
        check.due("the first", after(Scenes::empty).bore(9999), 0);
        check.due("the fifth", after(Scenes::some).bore(0), 4);
        check.refused("the 25th", Scenes::full, x -> x.bore(0), Check.FULL);
        Looks.Run room = Looks.both(Scenes::full, x -> x.takeBore(0));
        check.due("of a sort there was", after(room).bore(0), 23);
        check.due("of a sort there is", after(room).bore(10), 23);
        check.refused("of a new sort", room, x -> x.bore(1), Check.FULL);
        bounds("bore", Counted::bore, 0, 9999, Check.OUTSIDE);
    }

    private static void takeShaft() {
        check.sentence("`int takeShaft(int s)`: TAKEN: SIZE. UNKNOWN.");
        int[] sizes = {100, 200, 300};
        for (int s = 0; s < 3; s++) {
            Counted x = after(Scenes::some);
            check.due("takeShaft(" + s + ")", x.takeShaft(s), sizes[s]);
            check.due("shafts", x.told(0), 2);
            check.due("sorts stay", x.told(2), 8);
            check.due("takeShaft(2)", x.takeShaft(2), Check.UNKNOWN);
        }
        Counted x = after(Scenes::full);
        for (int s = 23; s >= 0; s--) {
            check.due("takeShaft(" + s + ") of all", x.takeShaft(s), 10 * s);
        }
        check.due("takeShaft(0) of none", x.takeShaft(0), Check.UNKNOWN);
        numbers("takeShaft", Counted::takeShaft, SHAFTS);
    }

    private static void takeBore() {
        check.sentence("`int takeBore(int b)`: TAKEN: SIZE. UNKNOWN.");
        int[] sizes = {400, 103, 215, 105};
        for (int b = 0; b < 4; b++) {
            Counted x = after(Scenes::some);
            check.due("takeBore(" + b + ")", x.takeBore(b), sizes[b]);
            check.due("bores", x.told(1), 3);
            check.due("sorts stay", x.told(2), 8);
            check.due("takeBore(3)", x.takeBore(3), Check.UNKNOWN);
        }
        Counted x = after(Scenes::full);
        for (int b = 0; b < 24; b++) {
            check.due("takeBore(0) of all", x.takeBore(0), 10 * b + (b % 4 == 3 ? 999 : 0));
        }
        check.due("takeBore(0) of none", x.takeBore(0), Check.UNKNOWN);
        numbers("takeBore", Counted::takeBore, BORES);
    }

    private static void grade() {
        check.sentence("`int grade(int g, int least, int most)`: TOLD: PAIRS then. UNKNOWN, OUTSIDE (also LEAST above MOST).");
        check.due("nothing: grade(0, 0, 999)", after(Scenes::empty).grade(0, 0, 999), 0);
        check.due("some: grade(0, 3, 3)", after(Scenes::some).grade(0, 3, 3), 2);
        check.due("some: grade(0, 4, 4)", after(Scenes::some).grade(0, 4, 4), 1);
        check.due("some: grade(0, 0, 100)", after(Scenes::some).grade(0, 0, 100), 3);
        check.due("full: grade(1, 0, 0)", after(Scenes::full).grade(1, 0, 0), 24);
        check.due("full: grade(3, 0, 0)", after(Scenes::full).grade(3, 0, 0), 18);
        bounds("grade(g, 0, 0)", (x, g) -> x.grade(g, 0, 0), 0, 3, Check.UNKNOWN);
        bounds("grade(g, 1, 0)", (x, g) -> x.grade(g, 1, 0), 0, 3, Check.UNKNOWN);
        bounds("grade(0, least, 999)", (x, least) -> x.grade(0, least, 999), 0, 999, Check.OUTSIDE);
        bounds("grade(0, 0, most)", (x, most) -> x.grade(0, 0, most), 0, 999, Check.OUTSIDE);
        bounds("grade(0, least, 7)", (x, least) -> x.grade(0, least, 7), 0, 7, Check.OUTSIDE);
        bounds("grade(0, 7, most)", (x, most) -> x.grade(0, 7, most), 7, 999, Check.OUTSIDE);
    }

    private static void putAway() {
        check.sentence("`int putAway()`: PUT AWAY: how many PAIRS. NOT: none.");
        check.refused("nothing", Scenes::empty, x -> x.putAway(), Check.NOT);
        Counted some = after(Scenes::some);
        check.due("some", some.putAway(), 2);
        check.due("the shaft that is left", some.shaftAt(0, 1), 300);
        check.due("the bores that are left", some.boreAt(0, 0), 400);
        check.due("the bores that are left", some.boreAt(1, 0), 105);
        check.due("no pair is left", some.putAway(), Check.NOT);
        check.due("full", after(Scenes::full).putAway(), 24);
        Counted anew = new Counted();
        anew.grade(0, 0, 10);
        anew.shaft(0, 100);
        anew.shaft(0, 100);
        anew.bore(105);
        check.due("one", anew.putAway(), 1);
        anew.bore(106);
        check.due("and one more then", anew.putAway(), 1);
    }

    private static void batch() {
        check.sentence("`int batch(int n)`: BATCH (1 .. 20): how many came. OUTSIDE.");
        for (int n = 1; n <= 20; n++) {
            Counted x = new Counted();
            check.due("batch(" + n + ")", x.batch(n), n);
            check.due("parts", x.told(0) + x.told(1), n);
        }
        check.due("full: batch(1)", after(Scenes::full).batch(1), 0);
        check.due("full: batch(20)", after(Scenes::full).batch(20), 0);
        bounds("batch", Counted::batch, 1, 20, Check.OUTSIDE);
    }

    private static void clear() {
        check.sentence("`int clear()`: CLEARED: how many parts there were.");
        int[] due = {0, 7, 48};
        for (int i = 0; i < 3; i++) {
            Counted x = after(SCENES.get(i));
            check.due("clear()", x.clear(), due[i]);
            check.due("sorts", x.told(2), 0);
            check.due("clear() again", x.clear(), 0);
        }
    }

    private static void undo() {
        check.sentence("`int undo(int n)`: The n latest (1 .. 16) are undone: SHAFTS and BORES. OUTSIDE, NOT: not so many.");
        int[] some = {6, 5, 6, 5, 4};
        for (int n = 1; n <= 5; n++) {
            check.due("some: undo(" + n + ")", after(Scenes::some).undo(n), some[n - 1]);
        }
        for (int n = 6; n <= 16; n++) {
            int tooMany = n;
            check.refused("some: undo(" + n + ")", Scenes::some, x -> x.undo(tooMany), Check.NOT);
        }
        for (int n = 1; n <= 16; n++) {
            int many = n;
            check.due("full: undo(" + n + ")", after(Scenes::full).undo(n), 48 - n);
            check.refused("nothing: undo(" + n + ")", Scenes::empty, x -> x.undo(many), Check.NOT);
        }
        bounds("undo", Counted::undo, 1, 16, Check.OUTSIDE);
    }

    private static void crowd() {
        check.sentence("`int crowd(int what)`: CROWD: what = 0 x, 1 y, 2 SHAFTS, 3 BORES; NONE. OUTSIDE.");
        int[] due = {210, 305, 2, 1};
        for (int what = 0; what <= 3; what++) {
            check.due("nothing: crowd(" + what + ")", after(Scenes::empty).crowd(what), Check.NONE);
            check.due("some: crowd(" + what + ")", after(Scenes::some).crowd(what), due[what]);
            check.due("full: crowd(" + what + ")", after(Scenes::full).crowd(what), Check.NONE);
        }
        bounds("crowd", Counted::crowd, 0, 3, Check.OUTSIDE);
    }

    private static void boxes() {
        check.sentence("`int boxes(int k)`: WORTHS of k BOXES (0 .. 9). OUTSIDE.");
        for (int k = 0; k <= 9; k++) {
            check.due("nothing: boxes(" + k + ")", after(Scenes::empty).boxes(k), 0);
            check.due("some: boxes(" + k + ")", after(Scenes::some).boxes(k), Math.min(k, 2));
            check.due("full: boxes(" + k + ")", after(Scenes::full).boxes(k), k);
        }
        bounds("boxes", Counted::boxes, 0, 9, Check.OUTSIDE);
    }

    private static void withBore() {
        check.sentence("`int withBore(int size)`: PAIRS, if there were one BORE more of a SIZE. OUTSIDE.");
        check.due("nothing: withBore(0)", after(Scenes::empty).withBore(0), 0);
        check.due("nothing: withBore(9999)", after(Scenes::empty).withBore(9999), 0);
        int[] sizes = {0, 105, 299, 300, 305, 306, 9999};
        int[] due = {2, 2, 2, 3, 3, 2, 2};
        for (int i = 0; i < sizes.length; i++) {
            check.due("some: withBore(" + sizes[i] + ")", after(Scenes::some).withBore(sizes[i]), due[i]);
        }
        check.due("full: withBore(0)", after(Scenes::full).withBore(0), 24);
        Looks.Run oneShaftMore = x -> {
            for (int i = 0; i < 24; i++) {
                x.bore(7);
            }
            x.shaft(0, 9);
        };
        check.due("24 bores: withBore(9)", after(oneShaftMore).withBore(9), 1);
        check.due("24 bores: withBore(8)", after(oneShaftMore).withBore(8), 0);
        bounds("withBore", Counted::withBore, 0, 9999, Check.OUTSIDE);
    }

    private static void see() {
        check.sentence("`int see(int g, int size, boolean went)`: SEEN (a GRADE, a SIZE): how much. UNKNOWN, OUTSIDE, FULL (6).");
        check.due("nothing: see", after(Scenes::empty).see(0, 0, true), 1);
        check.due("some: see", after(Scenes::some).see(3, 9999, false), 3);
        check.refused("full: see", Scenes::full, x -> x.see(3, 9999, false), Check.FULL);
        Looks.Run five = x -> {
            for (int i = 0; i < 5; i++) {
                x.see(0, 0, false);
            }
        };
        check.due("the 6th", after(five).see(0, 0, false), 6);
        check.refused("the 7th", Looks.both(five, x -> x.see(0, 1, false)), x -> x.see(0, 0, false), Check.FULL);
        for (boolean went : new boolean[] {false, true}) {
            bounds("see(g, 0, " + went + ")", (x, g) -> x.see(g, 0, went), 0, 3, Check.UNKNOWN);
            bounds("see(3, size, " + went + ")", (x, size) -> x.see(3, size, went), 0, 9999, Check.OUTSIDE);
        }
    }

    private static void forget() {
        check.sentence("`int forget()`: Nothing is SEEN: how much was.");
        int[] due = {0, 2, 6};
        for (int i = 0; i < 3; i++) {
            Counted x = after(SCENES.get(i));
            int undoable = x.told(15);
            check.due("forget()", x.forget(), due[i]);
            check.due("seen", x.told(10), 0);
            check.due("sizes", x.told(11), 10000);
            check.due("forget() again", x.forget(), 0);
            check.due("it is no deed", x.told(15), undoable);
        }
    }

    private static void seed() {
        check.sentence("`int seed(int v)`: THE SEED becomes v (0 .. 2147483647): what it was. OUTSIDE.");
        Counted x = new Counted();
        check.due("seed(0)", x.seed(0), 0);
        check.due("seed(1)", x.seed(1), 0);
        check.due("seed(2147483646)", x.seed(2147483646), 1);
        check.due("seed(2147483647)", x.seed(2147483647), 2147483646);
        check.due("seed(-1)", x.seed(-1), Check.OUTSIDE);
        check.due("seed(5)", x.seed(5), 2147483647);
        check.due("seed(0)", x.seed(0), 5);
        for (Looks.Run scene : SCENES) {
            for (int v : new int[] {-1, -2, MIN, MIN + 1}) {
                check.refused("seed(" + v + ")", scene, y -> y.seed(v), Check.OUTSIDE);
            }
        }
    }

    private static void keep() {
        check.sentence("`int keep(int i)`: IMAGE i becomes what is so (nothing can be undone then): 1. UNKNOWN.");
        for (Looks.Run scene : SCENES) {
            for (int i = 0; i <= 1; i++) {
                Counted x = after(scene);
                int parts = x.told(0) + x.told(1);
                check.due("keep(" + i + ")", x.keep(i), 1);
                check.due("nothing can be undone", x.told(15), 0);
                check.due("undo(1)", x.undo(1), Check.NOT);
                check.due("parts as they were", x.told(0) + x.told(1), parts);
                check.due("keep(" + i + ") again", x.keep(i), 1);
                x.clear();
                check.due("goBack(" + i + ")", x.goBack(i), 1);
                check.due("parts", x.told(0) + x.told(1), parts);
            }
        }
        bounds("keep", Counted::keep, 0, 1, Check.UNKNOWN);
    }

    private static void goBack() {
        check.sentence("`int goBack(int i)`: What is so becomes IMAGE i (nothing can be undone then): 1. UNKNOWN, NOT: it was not kept.");
        for (int i = 0; i <= 1; i++) {
            int image = i;
            check.refused("nothing: goBack(" + i + ")", Scenes::empty, x -> x.goBack(image), Check.NOT);
            check.due("full: goBack(" + i + ")", after(Scenes::full).goBack(i), 1);
        }
        check.due("some: goBack(0)", after(Scenes::some).goBack(0), 1);
        check.refused("some: goBack(1)", Scenes::some, x -> x.goBack(1), Check.NOT);
        Counted x = after(Scenes::some);
        x.goBack(0);
        check.due("nothing can be undone", x.told(15), 0);
        check.due("undo(1)", x.undo(1), Check.NOT);
        check.due("shafts", x.told(0), 2);
        check.due("bores", x.told(1), 2);
        check.due("sorts", x.told(2), 4);
        check.due("seen as it is", x.told(10), 2);
        check.due("goBack(0) again", x.goBack(0), 1);
        bounds("goBack", Counted::goBack, 0, 1, Check.UNKNOWN);
    }
}
