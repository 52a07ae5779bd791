/** What there is when a call comes: nothing, some, as much as may be. */
final class Scenes {
    private Scenes() { }

    static void empty(Counted x) { }

    /** 3 SHAFTS, 4 BORES, 8 SORTS of which one has none left, 2 PAIRS, 2 SEEN, IMAGE 0 kept, 5 deeds since. */
    static void some(Counted x) {
        x.seed(7);
        x.grade(0, 0, 5);
        x.grade(1, 10, 20);
        x.shaft(0, 100);
        x.shaft(1, 200);
        x.bore(400);
        x.bore(103);
        x.keep(0);
        x.shaft(2, 300);
        x.shaft(0, 300);
        x.takeShaft(2);
        x.bore(215);
        x.bore(104);
        x.undo(1);
        x.bore(105);
        x.see(0, 100, true);
        x.see(1, 85, false);
    }

    /** 24 SHAFTS, 24 BORES, 48 SORTS, 24 PAIRS, 6 SEEN, both IMAGES kept, 16 deeds to undo. */
    static void full(Counted x) {
        x.seed(2147483647);
        x.keep(1);
        x.grade(0, 0, 0);
        x.grade(3, 999, 999);
        x.keep(0);
        for (int i = 0; i < 24; i++) {
            x.shaft(i % 4, 10 * i);
            x.bore(10 * i + (i % 4 == 3 ? 999 : 0));
        }
        for (int i = 0; i < 6; i++) {
            x.see(i % 4, 10 * i, i == 0);
        }
    }
}
