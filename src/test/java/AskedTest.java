/** Promises 17 to 19, crowd, boxes, withBore, and of promise 2 EASE and MORE. */
public final class AskedTest {
    private static final Check check = new Check("AskedTest");

    public static void main(String[] args) {
        crowd();
        crowdLeastFirst();
        crowdOutside();
        boxes();
        boxOrder();
        boxesInARow();
        boxesOutside();
        withBore();
        ease();
        more();
        nothingChanges();
        check.end();
    }

    private static void crowdIs(String when, Counted x, int... due) {
        for (int what = 0; what < 4; what++) {
            check.due(when + ": crowd(" + what + ")", x.crowd(what), due.length == 0 ? Check.NONE : due[what]);
        }
    }

    private static void crowd() {
        Counted x = new Counted();
        x.grade(0, 0, 10);
        x.grade(1, 5, 30);
        crowdIs("none", x);
        x.bore(50);
        crowdIs("no shaft", x);
        x.shaft(0, 100);
        crowdIs("one shaft", x, 100, 110, 1, 0);
        x.bore(100);
        crowdIs("a bore at the beginning", x);
        x.takeBore(1);
        x.bore(110);
        crowdIs("a bore at the end", x);
        x.takeBore(1);
        x.bore(111);
        crowdIs("a bore behind the end", x, 100, 110, 1, 0);
        x.takeBore(1);
        x.bore(99);
        crowdIs("a bore ahead of the beginning", x, 100, 110, 1, 0);
        x.takeBore(1);
        x.shaft(0, 100);
        x.shaft(1, 90);
        crowdIs("three", x, 95, 120, 3, 0);
        x.bore(105);
        crowdIs("a bore within all", x, 95, 120, 3, 1);
        x.bore(115);
        crowdIs("a bore within one: x is another's beginning", x, 95, 110, 2, 1);
        x.bore(101);
        crowdIs("enough", x);
    }

    private static void crowdLeastFirst() {
        Counted x = new Counted();
        x.shaft(0, 300);
        x.shaft(0, 200);
        x.shaft(0, 400);
        x.bore(250);
        x.bore(350);
        crowdIs("of like ones the least x", x, 200, 200, 1, 0);
        x.bore(200);
        crowdIs("then the next", x, 300, 300, 1, 0);
        x.grade(1, 0, 50);
        x.shaft(1, 280);
        x.bore(310);
        crowdIs("the least x, then the least y", x, 280, 300, 1, 0);
        Counted wide = new Counted();
        wide.grade(0, 999, 999);
        wide.shaft(0, 9999);
        crowdIs("beyond all sizes", wide, 10998, 10998, 1, 0);
    }

    private static void crowdOutside() {
        Counted x = new Counted();
        check.due("crowd(4)", x.crowd(4), Check.OUTSIDE);
        for (int wild : Check.WILD) {
            check.due("crowd(" + wild + ")", x.crowd(wild), Check.OUTSIDE);
        }
    }

    private static void boxesAre(String when, Counted x, int... due) {
        for (int k = 0; k < 10; k++) {
            check.due(when + ": boxes(" + k + ")", x.boxes(k), due[Math.min(k, due.length - 1)]);
        }
    }

    private static void boxes() {
        Counted x = new Counted();
        x.grade(0, 0, 10);
        x.shaft(0, 100);
        boxesAre("a shaft alone", x, 0);
        x.bore(110);
        boxesAre("a pair", x, 0, 1);
        x.bore(110);
        boxesAre("a bore more", x, 0, 1);
        x.shaft(0, 109);
        boxesAre("two and two", x, 0, 2);
        x.bore(112);
        boxesAre("one that fits one alone", x, 0, 2);
        x.shaft(0, 300);
        x.bore(300);
        boxesAre("one more far off", x, 0, 2, 3);
        x.grade(0, 1, 9);
        boxesAre("spans that are narrower", x, 0, 1);
    }

    /** At one place SHAFTS are ahead of BORES: they go into the BOX with those behind. */
    private static void boxOrder() {
        Counted x = new Counted();
        x.grade(0, 5, 5);
        x.bore(105);
        x.bore(105);
        x.shaft(0, 100);
        x.shaft(0, 100);
        boxesAre("all at one place", x, 0, 2);
        Counted y = new Counted();
        y.grade(0, 0, 10);
        y.grade(1, 0, 2);
        y.shaft(0, 100);
        y.shaft(1, 103);
        y.bore(108);
        boxesAre("a shaft between that it does not fit", y, 0);
        y.bore(102);
        boxesAre("a bore ahead of it", y, 0, 1);
        y.bore(104);
        boxesAre("and one behind it", y, 0, 1, 2);
    }

    private static void boxesInARow() {
        Counted x = new Counted();
        for (int i = 0; i < 12; i++) {
            x.shaft(0, 100 * i);
            x.bore(100 * i);
        }
        boxesAre("a box each", x, 0, 1, 2, 3, 4, 5, 6, 7, 8, 9);
        for (int i = 0; i < 12; i++) {
            x.shaft(0, 500);
            x.bore(500);
        }
        boxesAre("the greatest first", x, 0, 13, 14, 15, 16, 17, 18, 19, 20, 21);
    }

    private static void boxesOutside() {
        Counted x = new Counted();
        check.due("boxes(10)", x.boxes(10), Check.OUTSIDE);
        for (int wild : Check.WILD) {
            check.due("boxes(" + wild + ")", x.boxes(wild), Check.OUTSIDE);
        }
    }

    private static void withBore() {
        Counted x = new Counted();
        check.due("no parts", x.withBore(0), 0);
        x.grade(0, 0, 10);
        x.shaft(0, 100);
        check.due("withBore(99)", x.withBore(99), 0);
        check.due("withBore(100)", x.withBore(100), 1);
        check.due("withBore(110)", x.withBore(110), 1);
        check.due("withBore(111)", x.withBore(111), 0);
        check.due("withBore(9999)", x.withBore(9999), 0);
        x.bore(105);
        x.shaft(0, 105);
        check.due("by another's being paired anew", x.withBore(102), 2);
        for (int i = 0; i < 23; i++) {
            x.bore(5000);
        }
        check.due("also if there is no room", x.withBore(102), 2);
        check.due("withBore(10000)", x.withBore(10000), Check.OUTSIDE);
        for (int wild : Check.WILD) {
            check.due("withBore(" + wild + ")", x.withBore(wild), Check.OUTSIDE);
        }
        check.due("no bore more", x.told(1), 24);
        check.due("no pair more", x.told(3), 1);
    }

    private static void ease() {
        Counted x = new Counted();
        x.grade(0, 5, 10);
        x.bore(100);
        check.due("no shaft", x.told(8), 0);
        x.shaft(0, 95);
        check.due("it goes as it is", x.told(8), 0);
        x.takeShaft(0);
        x.shaft(0, 80);
        check.due("more by 10", x.told(8), 10);
        x.takeShaft(0);
        x.shaft(0, 120);
        check.due("less by 25, below 0", x.told(8), 25);
        x.shaft(0, 120);
        check.due("too few bores", x.told(8), Check.NONE);
        x.bore(1124);
        check.due("more by 994", x.told(8), 994);
        x.takeBore(1);
        x.bore(1129);
        check.due("more by 999", x.told(8), 999);
        x.takeBore(1);
        x.bore(1130);
        check.due("by 999 not", x.told(8), Check.NONE);
    }

    private static void more() {
        Counted x = new Counted();
        check.due("no shaft", x.told(9), Check.NONE);
        x.grade(0, 5, 10);
        x.shaft(0, 200);
        x.shaft(0, 100);
        check.due("the least beginning", x.told(9), 105);
        x.bore(105);
        check.due("the next", x.told(9), 205);
        x.shaft(0, 99);
        check.due("by another's being paired anew", x.told(9), 104);
        x.bore(110);
        check.due("that one goes too", x.told(9), 205);
        x.bore(210);
        check.due("all go", x.told(9), Check.NONE);
        x.shaft(0, 9995);
        check.due("no such size", x.told(9), Check.NONE);
        x.shaft(0, 9994);
        check.due("the greatest size", x.told(9), 9999);
    }

    private static void nothingChanges() {
        Looks.Run some = x -> {
            x.seed(3);
            x.grade(1, 2, 30);
            x.batch(20);
        };
        check.alike("asked", Looks.both(some, AskedTest::askAll), some);
    }

    private static void askAll(Counted x) {
        for (int what = 0; what < 16; what++) {
            x.told(what);
            x.crowd(what);
            x.boxes(what);
            x.withBore(1000 + what);
            x.shaftAt(what, 2);
            x.boreAt(what, 1);
            x.gradeAt(what, 2);
            x.sort(what, 3);
            x.find(4, 1000 + what);
        }
    }
}
