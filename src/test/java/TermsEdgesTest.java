import java.util.List;

/** The sentences about numbers, refusals and the 512 calls: each with what is just within and just without. */
public final class TermsEdgesTest {
    private static final Check check = new Check("TermsEdgesTest");
    private static final List<Looks.Run> SCENES = List.of(Scenes::empty, Scenes::some, Scenes::full);

    public static void main(String[] args) {
        scenesAreAsTold();
        fiveHundredAndTwelveCalls();
        laterCallsEnd();
        numbersFromZeroOn();
        none();
        farBelow();
        unknown();
        outside();
        not();
        full();
        unknownAheadOfOutside();
        unknownAheadOfNot();
        unknownAheadOfFull();
        outsideAheadOfNot();
        outsideAheadOfFull();
        refusedChangesNothing();
        askedChangesNothing();
        askedAheadOfAChange();
        check.end();
    }

    private static Counted after(Looks.Run run) {
        Counted x = new Counted();
        run.on(x);
        return x;
    }

    /** The other tests say "full" and "some": here it is looked at whether they are that. */
    private static void scenesAreAsTold() {
        int[][] due = {{0, 0, 0, 0, 0, 0}, {3, 4, 8, 2, 2, 5}, {24, 24, 48, 24, 6, 16}};
        int[] what = {0, 1, 2, 3, 10, 15};
        for (int i = 0; i < SCENES.size(); i++) {
            for (int j = 0; j < what.length; j++) {
                check.due("scene " + i + ": told(" + what[j] + ")", after(SCENES.get(i)).told(what[j]), due[i][j]);
            }
        }
    }

    private static void fiveHundredAndTwelveCalls() {
        check.sentence("An object is used for at most 512 calls after it has been made; what later calls answer is free.");
        Counted x = new Counted();
        for (int i = 0; i < 255; i++) {
            check.due("call " + (2 * i + 1) + ": bore(1)", x.bore(1), 0);
            check.due("call " + (2 * i + 2) + ": takeBore(0)", x.takeBore(0), 1);
        }
        check.due("call 511: sort(0, 3)", x.sort(0, 3), 255);
        check.due("call 512: undo(16)", x.undo(16), 0);
        check.due("calls left", x.callsLeft(), 0);
        Counted y = new Counted();
        for (int i = 0; i < 510; i++) {
            check.due("clear()", y.clear(), 0);
        }
        check.due("call 511: told(15)", y.told(15), 16);
        check.due("call 512: told(8)", y.told(8), 0);
    }

    /** What they answer is free, but none may throw, as none ever may. */
    private static void laterCallsEnd() {
        BoreSpans x = new BoreSpans();
        for (int i = 0; i < 3000; i++) {
            int n = i % 61 == 0 ? Integer.MAX_VALUE : i % 37 == 0 ? -1 : i % 26;
            x.batch(n);
            x.shaft(n % 5, 37 * n);
            x.bore(41 * n);
            x.grade(n % 5, n, 40 * n);
            x.told(n);
            x.shaftAt(n, 2);
            x.boreAt(n, 1);
            x.crowd(n % 5);
            x.boxes(n);
            x.withBore(n);
            x.see(n % 5, n, i % 2 == 0);
            x.takeShaft(n);
            x.takeBore(n);
            if (i % 7 == 0) {
                x.putAway();
                x.undo(n);
                x.keep(n % 3);
                x.forget();
            }
            if (i % 97 == 0) {
                x.goBack(n % 3);
                x.clear();
            }
        }
        check.holds("3000 rounds end", true);
    }

    private static void numbersFromZeroOn() {
        check.sentence("What has a number has it from 0 on, as it comes.");
        Counted x = new Counted();
        check.due("the first shaft", x.shaft(2, 50), 0);
        check.due("the first bore", x.bore(60), 0);
        check.due("the second bore", x.bore(70), 1);
        check.due("the second shaft", x.shaft(1, 40), 1);
        check.due("shaft 0", x.shaftAt(0, 1), 50);
        check.due("bore 0", x.boreAt(0, 0), 60);
        check.due("sort 0", x.sort(0, 1), 50);
        check.due("sort 3", x.sort(3, 1), 40);
        check.due("grade 0", x.gradeAt(0, 0), 0);
        check.due("image 0", x.keep(0), 1);
        check.due("no shaft -1", x.shaftAt(-1, 1), Check.UNKNOWN);
        check.due("no bore -1", x.boreAt(-1, 0), Check.UNKNOWN);
        check.due("no sort -1", x.sort(-1, 1), Check.UNKNOWN);
        check.due("no grade -1", x.gradeAt(-1, 0), Check.UNKNOWN);
        check.due("no image -1", x.keep(-1), Check.UNKNOWN);
    }

    private static void none() {
        check.sentence("NONE is -1.");
        check.due("NONE", BoreSpans.NONE, -1);
        check.due("told(6) of a new object", new Counted().told(6), -1);
        check.due("find(0, 0) of a new object", new Counted().find(0, 0), -1);
    }

    private static void farBelow() {
        check.sentence("They are far below all that is counted: -1000000001 and on.");
        check.due("UNKNOWN", BoreSpans.UNKNOWN, -1000000001);
        check.due("OUTSIDE", BoreSpans.OUTSIDE, -1000000002);
        check.due("NOT", BoreSpans.NOT, -1000000003);
        check.due("FULL", BoreSpans.FULL, -1000000004);
    }

    private static void unknown() {
        check.sentence("UNKNOWN (a GRADE, SHAFT, BORE, SORT, IMAGE that there is not)");
        for (int g : new int[] {-1, 4}) {
            check.due("gradeAt(" + g + ", 0)", after(Scenes::full).gradeAt(g, 0), Check.UNKNOWN);
            check.due("grade(" + g + ", 0, 0)", after(Scenes::full).grade(g, 0, 0), Check.UNKNOWN);
            check.due("shaft(" + g + ", 0)", after(Scenes::some).shaft(g, 0), Check.UNKNOWN);
            check.due("see(" + g + ", 0, true)", after(Scenes::some).see(g, 0, true), Check.UNKNOWN);
        }
        for (int number : new int[] {-1, 24}) {
            check.due("shaftAt(" + number + ", 0)", after(Scenes::full).shaftAt(number, 0), Check.UNKNOWN);
            check.due("takeShaft(" + number + ")", after(Scenes::full).takeShaft(number), Check.UNKNOWN);
            check.due("boreAt(" + number + ", 0)", after(Scenes::full).boreAt(number, 0), Check.UNKNOWN);
            check.due("takeBore(" + number + ")", after(Scenes::full).takeBore(number), Check.UNKNOWN);
        }
        check.due("sort(48, 0)", after(Scenes::full).sort(48, 0), Check.UNKNOWN);
        check.due("sort(47, 0)", after(Scenes::full).sort(47, 0), 4);
        check.due("keep(2)", after(Scenes::full).keep(2), Check.UNKNOWN);
        check.due("goBack(2)", after(Scenes::full).goBack(2), Check.UNKNOWN);
    }

    private static void outside() {
        check.sentence("OUTSIDE (another number out of its bounds)");
        for (int wild : Check.WILD) {
            Counted x = after(Scenes::some);
            check.due("told(" + wild + ")", x.told(wild), Check.OUTSIDE);
            check.due("shaftAt(0, " + wild + ")", x.shaftAt(0, wild), Check.OUTSIDE);
            check.due("boreAt(0, " + wild + ")", x.boreAt(0, wild), Check.OUTSIDE);
            check.due("gradeAt(0, " + wild + ")", x.gradeAt(0, wild), Check.OUTSIDE);
            check.due("sort(0, " + wild + ")", x.sort(0, wild), Check.OUTSIDE);
            check.due("find(" + wild + ", 0)", x.find(wild, 0), Check.OUTSIDE);
            check.due("find(0, " + wild + ")", x.find(0, wild), Check.OUTSIDE);
            check.due("shaft(0, " + wild + ")", x.shaft(0, wild), Check.OUTSIDE);
            check.due("bore(" + wild + ")", x.bore(wild), Check.OUTSIDE);
            check.due("grade(0, " + wild + ", 999)", x.grade(0, wild, 999), Check.OUTSIDE);
            check.due("grade(0, 0, " + wild + ")", x.grade(0, 0, wild), Check.OUTSIDE);
            check.due("grade(0, " + wild + ", " + wild + ")", x.grade(0, wild, wild), Check.OUTSIDE);
            check.due("batch(" + wild + ")", x.batch(wild), Check.OUTSIDE);
            check.due("undo(" + wild + ")", x.undo(wild), Check.OUTSIDE);
            check.due("crowd(" + wild + ")", x.crowd(wild), Check.OUTSIDE);
            check.due("boxes(" + wild + ")", x.boxes(wild), Check.OUTSIDE);
            check.due("withBore(" + wild + ")", x.withBore(wild), Check.OUTSIDE);
            check.due("see(0, " + wild + ", true)", x.see(0, wild, true), Check.OUTSIDE);
        }
    }

    private static void not() {
        check.sentence("NOT (not now, as told), FULL.");
        check.due("putAway() without a pair", after(Scenes::empty).putAway(), Check.NOT);
        check.due("putAway() with pairs", after(Scenes::full).putAway(), 24);
        check.due("undo(1) of nothing", after(Scenes::empty).undo(1), Check.NOT);
        check.due("undo(6) of five", after(Scenes::some).undo(6), Check.NOT);
        check.due("undo(5) of five", after(Scenes::some).undo(5), 4);
        check.due("goBack(1), not kept", after(Scenes::some).goBack(1), Check.NOT);
        check.due("goBack(1), kept", after(Scenes::full).goBack(1), 1);
    }

    private static void full() {
        check.sentence("NOT (not now, as told), FULL.");
        check.due("shaft", after(Scenes::full).shaft(0, 0), Check.FULL);
        check.due("bore", after(Scenes::full).bore(0), Check.FULL);
        check.due("see", after(Scenes::full).see(0, 0, true), Check.FULL);
        check.due("shaft, not full", after(Scenes::some).shaft(0, 0), 3);
        check.due("bore, not full", after(Scenes::some).bore(0), 4);
        check.due("see, not full", after(Scenes::some).see(0, 0, true), 3);
    }

    private static void unknownAheadOfOutside() {
        check.sentence("REFUSALS, of several the first in this order:");
        for (Looks.Run scene : SCENES) {
            check.refused("shaftAt(24, 6)", scene, x -> x.shaftAt(24, 6), Check.UNKNOWN);
            check.refused("shaftAt(-1, -1)", scene, x -> x.shaftAt(-1, -1), Check.UNKNOWN);
            check.refused("boreAt(24, 4)", scene, x -> x.boreAt(24, 4), Check.UNKNOWN);
            check.refused("boreAt(-1, -1)", scene, x -> x.boreAt(-1, -1), Check.UNKNOWN);
            check.refused("gradeAt(4, 3)", scene, x -> x.gradeAt(4, 3), Check.UNKNOWN);
            check.refused("gradeAt(-1, -1)", scene, x -> x.gradeAt(-1, -1), Check.UNKNOWN);
            check.refused("sort(48, 4)", scene, x -> x.sort(48, 4), Check.UNKNOWN);
            check.refused("sort(-1, -1)", scene, x -> x.sort(-1, -1), Check.UNKNOWN);
            check.refused("shaft(4, 10000)", scene, x -> x.shaft(4, 10000), Check.UNKNOWN);
            check.refused("shaft(-1, -1)", scene, x -> x.shaft(-1, -1), Check.UNKNOWN);
            check.refused("grade(4, 1000, 1000)", scene, x -> x.grade(4, 1000, 1000), Check.UNKNOWN);
            check.refused("grade(-1, 1, 0)", scene, x -> x.grade(-1, 1, 0), Check.UNKNOWN);
            check.refused("see(4, 10000, true)", scene, x -> x.see(4, 10000, true), Check.UNKNOWN);
            check.refused("see(-1, -1, false)", scene, x -> x.see(-1, -1, false), Check.UNKNOWN);
        }
    }

    private static void unknownAheadOfNot() {
        check.sentence("REFUSALS, of several the first in this order:");
        check.refused("goBack(2), none kept", Scenes::empty, x -> x.goBack(2), Check.UNKNOWN);
        check.refused("goBack(-1), none kept", Scenes::empty, x -> x.goBack(-1), Check.UNKNOWN);
    }

    private static void unknownAheadOfFull() {
        check.sentence("REFUSALS, of several the first in this order:");
        check.refused("shaft(4, 0)", Scenes::full, x -> x.shaft(4, 0), Check.UNKNOWN);
        check.refused("shaft(-1, 0)", Scenes::full, x -> x.shaft(-1, 0), Check.UNKNOWN);
        check.refused("see(4, 0, true)", Scenes::full, x -> x.see(4, 0, true), Check.UNKNOWN);
        check.refused("see(-1, 0, true)", Scenes::full, x -> x.see(-1, 0, true), Check.UNKNOWN);
    }

    private static void outsideAheadOfNot() {
        check.sentence("REFUSALS, of several the first in this order:");
        check.refused("undo(17)", Scenes::empty, x -> x.undo(17), Check.OUTSIDE);
        check.refused("undo(0)", Scenes::empty, x -> x.undo(0), Check.OUTSIDE);
        check.refused("undo(-1)", Scenes::empty, x -> x.undo(-1), Check.OUTSIDE);
        check.refused("undo(17) of 16", Scenes::full, x -> x.undo(17), Check.OUTSIDE);
    }

    private static void outsideAheadOfFull() {
        check.sentence("REFUSALS, of several the first in this order:");
        for (int size : new int[] {-1, 10000}) {
            check.refused("shaft(0, " + size + ")", Scenes::full, x -> x.shaft(0, size), Check.OUTSIDE);
            check.refused("bore(" + size + ")", Scenes::full, x -> x.bore(size), Check.OUTSIDE);
            check.refused("see(0, " + size + ", true)", Scenes::full, x -> x.see(0, size, true), Check.OUTSIDE);
        }
    }

    private static void refusedChangesNothing() {
        check.sentence("What is refused changes nothing.");
        for (Looks.Run scene : SCENES) {
            check.refused("shaft(4, 0)", scene, x -> x.shaft(4, 0), Check.UNKNOWN);
            check.refused("shaft(0, 10000)", scene, x -> x.shaft(0, 10000), Check.OUTSIDE);
            check.refused("bore(10000)", scene, x -> x.bore(10000), Check.OUTSIDE);
            check.refused("takeShaft(24)", scene, x -> x.takeShaft(24), Check.UNKNOWN);
            check.refused("takeBore(24)", scene, x -> x.takeBore(24), Check.UNKNOWN);
            check.refused("grade(4, 1, 2)", scene, x -> x.grade(4, 1, 2), Check.UNKNOWN);
            check.refused("grade(0, 2, 1)", scene, x -> x.grade(0, 2, 1), Check.OUTSIDE);
            check.refused("grade(0, -1, 1)", scene, x -> x.grade(0, -1, 1), Check.OUTSIDE);
            check.refused("grade(0, 1, 1000)", scene, x -> x.grade(0, 1, 1000), Check.OUTSIDE);
            check.refused("batch(0)", scene, x -> x.batch(0), Check.OUTSIDE);
            check.refused("batch(21)", scene, x -> x.batch(21), Check.OUTSIDE);
            check.refused("undo(0)", scene, x -> x.undo(0), Check.OUTSIDE);
            check.refused("undo(17)", scene, x -> x.undo(17), Check.OUTSIDE);
            check.refused("see(4, 0, true)", scene, x -> x.see(4, 0, true), Check.UNKNOWN);
            check.refused("see(0, 10000, false)", scene, x -> x.see(0, 10000, false), Check.OUTSIDE);
            check.refused("seed(-1)", scene, x -> x.seed(-1), Check.OUTSIDE);
            check.refused("keep(2)", scene, x -> x.keep(2), Check.UNKNOWN);
            check.refused("goBack(2)", scene, x -> x.goBack(2), Check.UNKNOWN);
        }
        check.refused("putAway()", Scenes::empty, x -> x.putAway(), Check.NOT);
        Looks.Run apart = x -> {
            Scenes.some(x);
            x.grade(0, 999, 999);
            x.grade(1, 999, 999);
        };
        check.refused("putAway() of parts that do not go", apart, x -> x.putAway(), Check.NOT);
        check.refused("undo(1)", Scenes::empty, x -> x.undo(1), Check.NOT);
        check.refused("undo(6) of five", Scenes::some, x -> x.undo(6), Check.NOT);
        check.refused("goBack(0)", Scenes::empty, x -> x.goBack(0), Check.NOT);
        check.refused("goBack(1)", Scenes::some, x -> x.goBack(1), Check.NOT);
        check.refused("shaft(0, 0)", Scenes::full, x -> x.shaft(0, 0), Check.FULL);
        check.refused("bore(0)", Scenes::full, x -> x.bore(0), Check.FULL);
        check.refused("see(0, 0, true)", Scenes::full, x -> x.see(0, 0, true), Check.FULL);
    }

    private static void askedChangesNothing() {
        check.sentence("ASKED, nothing changes by it.");
        for (Looks.Run scene : SCENES) {
            for (int i = 0; i < 16; i++) {
                int what = i;
                check.alike("told(" + what + ")", Looks.both(scene, x -> x.told(what)), scene);
            }
            for (int i = 0; i < 10; i++) {
                int what = i;
                Looks.Run ask = x -> {
                    x.shaftAt(0, what);
                    x.boreAt(0, what);
                    x.gradeAt(0, what);
                    x.sort(0, what);
                    x.crowd(what);
                    x.boxes(what);
                    x.withBore(what);
                    x.find(what, 0);
                };
                check.alike("asked " + what, Looks.both(scene, ask), scene);
            }
        }
    }

    private static void askEach(Counted x) {
        for (int what = 0; what < 16; what++) {
            x.told(what);
        }
        for (int what = 0; what < 6; what++) {
            x.shaftAt(0, what);
            x.boreAt(0, what);
            x.gradeAt(0, what);
            x.sort(0, what);
            x.crowd(what);
        }
        x.boxes(9);
        x.withBore(5);
        x.find(4, 5);
    }

    /** What was asked ahead of a change is not what is answered after it. */
    private static void askedAheadOfAChange() {
        check.sentence("ASKED, nothing changes by it.");
        List<Looks.Run> changes = List.of(
                x -> x.shaft(0, 103), x -> x.bore(300), x -> x.takeShaft(0), x -> x.takeBore(1), x -> x.grade(0, 0, 4),
                x -> x.putAway(), x -> x.batch(20), x -> x.clear(), x -> x.undo(1), x -> x.undo(3),
                x -> x.see(0, 99, true), x -> x.forget(), x -> x.seed(3), x -> x.keep(1), x -> x.goBack(0));
        for (Looks.Run scene : SCENES) {
            for (int i = 0; i < changes.size(); i++) {
                Looks.Run change = changes.get(i);
                Looks.Run asked = Looks.both(Looks.both(scene, TermsEdgesTest::askEach), change);
                check.alike("asked ahead of change " + i, asked, Looks.both(scene, change));
            }
        }
    }
}
