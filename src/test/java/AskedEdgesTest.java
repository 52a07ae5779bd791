/** The sentences about CROWD, EASE, MORE and BOXES: each with none, the ends, and those that are alike. */
public final class AskedEdgesTest {
    private static final Check check = new Check("AskedEdgesTest");

    public static void main(String[] args) {
        crowdOfNone();
        crowdFromABeginningToAnEnd();
        crowdEndsAreWithin();
        asManyBoresAreNoCrowd();
        crowdWithTheMostMore();
        crowdOfTheLeastX();
        crowdOfTheLeastY();
        crowdWhollyWithin();
        crowdOfTheLeastXAheadOfY();
        crowdOfAll();
        crowdBeyondAllSizes();
        easeOfNone();
        easeAtItsBounds();
        easeBelowZero();
        easeAboveAllPlay();
        easeOfAllGrades();
        easeNeedsABoreEach();
        moreOfNone();
        moreAtItsBounds();
        moreIsTheLeast();
        moreBesideABoreThatDoesNotGo();
        moreByOthersPairedAnew();
        moreWithAllBores();
        moreWithAllSorts();
        boxOrderByPlace();
        boxOrderShaftAhead();
        boxOrderByNumber();
        boxSideBySide();
        boxEachFitsEach();
        worthIsTheFewer();
        boxesFromNoneToNine();
        boxesOrFewer();
        boxesWithNoPartInCommon();
        check.end();
    }

    private static void crowdIs(String when, Counted x, int... due) {
        for (int what = 0; what <= 3; what++) {
            check.due(when + ": crowd(" + what + ")", x.crowd(what), due.length == 0 ? Check.NONE : due[what]);
        }
    }

    private static void crowdOfNone() {
        check.sentence("x, y, how many SHAFTS, how many BORES; NONE: there is none.");
        Counted x = new Counted();
        crowdIs("no parts", x);
        x.bore(5);
        crowdIs("a bore alone", x);
        x.shaft(0, 5);
        crowdIs("a pair", x);
        x.takeBore(0);
        crowdIs("a shaft alone", x, 5, 5, 1, 0);
    }

    private static void crowdFromABeginningToAnEnd() {
        check.sentence("CROWD: of all from x to y, x a beginning of a SPAN, y an end of one,");
        Counted x = new Counted();
        x.grade(0, 0, 30);
        x.grade(1, 0, 5);
        x.shaft(0, 90);
        x.shaft(1, 100);
        x.shaft(1, 100);
        x.shaft(0, 100);
        crowdIs("one's beginning, another's end", x, 90, 130, 4, 0);
        x.bore(118);
        x.bore(125);
        crowdIs("a beginning of a span that is not within", x, 90, 105, 2, 0);
        x.takeShaft(0);
        crowdIs("that span gone", x, 100, 105, 2, 0);
    }

    private static void crowdEndsAreWithin() {
        check.sentence("where more SHAFTS have their SPAN wholly within x to y than BORES have their SIZE there:");
        int[] sizes = {109, 110, 115, 120, 121};
        boolean[] isThere = {false, true, true, true, false};
        for (int i = 0; i < sizes.length; i++) {
            Counted x = new Counted();
            x.grade(2, 10, 20);
            x.shaft(2, 100);
            x.bore(sizes[i]);
            if (isThere[i]) {
                crowdIs("a bore of " + sizes[i], x);
            } else {
                crowdIs("a bore of " + sizes[i], x, 110, 120, 1, 0);
            }
        }
        Counted x = new Counted();
        x.grade(0, 0, 10);
        x.grade(1, 0, 11);
        x.shaft(0, 100);
        x.shaft(0, 100);
        x.shaft(1, 99);
        x.bore(105);
        x.bore(105);
        crowdIs("99 to 110 is within 99 to 110", x, 99, 110, 3, 2);
        x.grade(1, 0, 12);
        crowdIs("99 to 111 is within 99 to 111 alone", x, 99, 111, 3, 2);
        x.bore(111);
        crowdIs("which has enough then", x);
    }

    private static void asManyBoresAreNoCrowd() {
        check.sentence("where more SHAFTS have their SPAN wholly within x to y than BORES have their SIZE there:");
        Counted x = new Counted();
        x.grade(0, 0, 10);
        for (int i = 0; i < 3; i++) {
            x.shaft(0, 100);
        }
        x.bore(100);
        x.bore(105);
        crowdIs("one fewer", x, 100, 110, 3, 2);
        x.bore(110);
        crowdIs("as many", x);
        x.bore(105);
        crowdIs("one more", x);
    }

    private static void crowdWithTheMostMore() {
        check.sentence("that with the most more (of like ones the least x, then the least y):");
        Counted x = new Counted();
        x.shaft(0, 100);
        for (int i = 0; i < 3; i++) {
            x.shaft(0, 500);
        }
        x.bore(500);
        x.bore(300);
        crowdIs("two more at 500, and from 100 to 500", x, 100, 500, 4, 2);
        x.bore(300);
        crowdIs("two more at 500 alone", x, 500, 500, 3, 1);
        x.takeBore(2);
        x.takeBore(1);
        crowdIs("three more from 100 to 500", x, 100, 500, 4, 1);
    }

    private static void crowdOfTheLeastX() {
        check.sentence("that with the most more (of like ones the least x, then the least y):");
        Counted x = new Counted();
        x.shaft(0, 300);
        x.shaft(0, 100);
        x.shaft(0, 200);
        x.bore(150);
        x.bore(250);
        crowdIs("one more thrice", x, 100, 100, 1, 0);
        x.grade(1, 0, 500);
        x.shaft(1, 0);
        x.bore(400);
        crowdIs("the beginning of a wider one is less", x, 0, 100, 1, 0);
    }

    private static void crowdOfTheLeastY() {
        check.sentence("that with the most more (of like ones the least x, then the least y):");
        Counted x = new Counted();
        x.grade(0, 0, 10);
        x.grade(1, 0, 5);
        x.shaft(0, 100);
        x.shaft(1, 100);
        x.bore(107);
        crowdIs("one more to 105 and to 110", x, 100, 105, 1, 0);
        x.takeBore(0);
        x.bore(103);
        crowdIs("one more to 110 alone", x, 100, 110, 2, 1);
        x.grade(2, 0, 0);
        x.shaft(2, 100);
        crowdIs("two more to 110 alone", x, 100, 110, 3, 1);
        x.bore(110);
        crowdIs("one more to 100, 105, 110", x, 100, 100, 1, 0);
    }

    /** A SPAN from 100 to 110 around one from 105 to 106. */
    private static Counted aSpanAroundAnother() {
        Counted x = new Counted();
        x.grade(0, 0, 10);
        x.grade(1, 0, 1);
        x.shaft(0, 100);
        x.shaft(1, 105);
        return x;
    }

    private static void crowdWhollyWithin() {
        check.sentence("where more SHAFTS have their SPAN wholly within x to y than BORES have their SIZE there:");
        Counted x = aSpanAroundAnother();
        x.bore(101);
        crowdIs("from 105 on the first is only in part", x, 100, 110, 2, 1);
        x.takeBore(0);
        x.bore(110);
        crowdIs("as it is to 106", x, 100, 106, 1, 0);
    }

    private static void crowdOfTheLeastXAheadOfY() {
        check.sentence("that with the most more (of like ones the least x, then the least y):");
        Counted x = aSpanAroundAnother();
        x.bore(100);
        crowdIs("not from 105 to 106, though it ends first", x, 100, 110, 2, 1);
        x.bore(109);
        crowdIs("one each there: only within", x, 105, 106, 1, 0);
    }

    private static void crowdOfAll() {
        check.sentence("x, y, how many SHAFTS, how many BORES; NONE: there is none.");
        Counted x = new Counted();
        for (int i = 0; i < 24; i++) {
            x.shaft(0, 400 * i);
        }
        crowdIs("24 shafts, no bore", x, 0, 9200, 24, 0);
        for (int i = 0; i < 23; i++) {
            x.bore(1);
        }
        crowdIs("23 bores where none is wanted", x, 400, 9200, 23, 0);
        Counted y = new Counted();
        for (int i = 0; i < 24; i++) {
            y.shaft(1, 77);
            if (i < 23) {
                y.bore(77);
            }
        }
        crowdIs("24 shafts, 23 bores", y, 77, 77, 24, 23);
        y.bore(77);
        crowdIs("24 shafts, 24 bores", y);
    }

    private static void crowdBeyondAllSizes() {
        check.sentence("CROWD: of all from x to y, x a beginning of a SPAN, y an end of one,");
        Counted x = new Counted();
        x.grade(0, 999, 999);
        x.shaft(0, 9999);
        crowdIs("at 10998", x, 10998, 10998, 1, 0);
        x.shaft(1, 0);
        crowdIs("from 0 on", x, 0, 10998, 2, 0);
        x.bore(0);
        crowdIs("one more at 10998, and from 0 on", x, 0, 10998, 2, 1);
        x.bore(9999);
        crowdIs("one more at 10998 alone", x, 10998, 10998, 1, 0);
    }

    private static void easeIs(String when, int due, int least, int most, int shaft, int bore) {
        Counted x = new Counted();
        x.grade(1, least, most);
        x.shaft(1, shaft);
        x.bore(bore);
        check.due(when + ": ease of " + shaft + " and " + bore, x.told(8), due);
        check.due("a pair just by 0", x.told(3), due == 0 ? 1 : 0);
    }

    private static void easeOfNone() {
        check.sentence("EASE: by how much PLAY of all GRADES must be more and less (LEAST less, also below 0, MOST more) so that each SHAFT is PAIRED (0 .. 999); NONE: by 999 not.");
        Counted x = new Counted();
        check.due("no parts", x.told(8), 0);
        x.bore(5);
        check.due("a bore alone", x.told(8), 0);
        x.shaft(0, 5);
        check.due("a pair", x.told(8), 0);
        x.takeBore(0);
        check.due("a shaft alone", x.told(8), Check.NONE);
    }

    private static void easeAtItsBounds() {
        check.sentence("EASE: by how much PLAY of all GRADES must be more and less (LEAST less, also below 0, MOST more) so that each SHAFT is PAIRED (0 .. 999); NONE: by 999 not.");
        int[] byHowMuch = {0, 1, 2, 511, 512, 513, 998, 999, 1000, 1001, 3000};
        for (int by : byHowMuch) {
            int due = by <= 999 ? by : Check.NONE;
            easeIs("more", due, 5, 10, 4000, 4010 + by);
            easeIs("less", due, 5, 10, 4000, 4005 - by);
        }
    }

    private static void easeBelowZero() {
        check.sentence("EASE: by how much PLAY of all GRADES must be more and less (LEAST less, also below 0, MOST more) so that each SHAFT is PAIRED (0 .. 999); NONE: by 999 not.");
        easeIs("to -1", 1, 0, 0, 1, 0);
        easeIs("to -999", 999, 0, 0, 999, 0);
        easeIs("to -1000", Check.NONE, 0, 0, 1000, 0);
        easeIs("to -999, begun at 0", 999, 0, 999, 9999, 9000);
        easeIs("from 999 to 0", 999, 999, 999, 9999, 9999);
        easeIs("from 999 to -1", Check.NONE, 999, 999, 9999, 9998);
        Counted x = new Counted();
        x.shaft(0, 1);
        x.bore(0);
        x.told(8);
        check.due("play itself stays", x.gradeAt(0, 0), 0);
    }

    private static void easeAboveAllPlay() {
        check.sentence("EASE: by how much PLAY of all GRADES must be more and less (LEAST less, also below 0, MOST more) so that each SHAFT is PAIRED (0 .. 999); NONE: by 999 not.");
        easeIs("to 1000", 1, 0, 999, 0, 1000);
        easeIs("to 1998", 999, 0, 999, 0, 1998);
        easeIs("to 1999", Check.NONE, 0, 999, 0, 1999);
        easeIs("to 1998 from 8001", 999, 999, 999, 8001, 9999);
    }

    private static void easeOfAllGrades() {
        check.sentence("EASE: by how much PLAY of all GRADES must be more and less (LEAST less, also below 0, MOST more) so that each SHAFT is PAIRED (0 .. 999); NONE: by 999 not.");
        Counted x = new Counted();
        for (int g = 0; g <= 3; g++) {
            x.grade(g, g, 2 * g);
            x.shaft(g, 2000 * g + 1000);
        }
        x.bore(1000);
        x.bore(3002);
        x.bore(5004);
        x.bore(7006);
        check.due("none needs any", x.told(8), 0);
        x.takeBore(0);
        x.bore(993);
        check.due("one needs 7 less", x.told(8), 7);
        x.takeBore(2);
        x.bore(7015);
        check.due("another needs 9 more", x.told(8), 9);
        x.takeBore(1);
        x.bore(4002);
        check.due("another needs 1000 less", x.told(8), Check.NONE);
    }

    private static void easeNeedsABoreEach() {
        check.sentence("EASE: by how much PLAY of all GRADES must be more and less (LEAST less, also below 0, MOST more) so that each SHAFT is PAIRED (0 .. 999); NONE: by 999 not.");
        Counted x = new Counted();
        x.shaft(0, 100);
        x.shaft(0, 100);
        x.bore(100);
        check.due("one bore for two", x.told(8), Check.NONE);
        x.bore(140);
        check.due("the other is 40 off", x.told(8), 40);
        x.bore(70);
        check.due("a nearer one", x.told(8), 30);
        Counted y = new Counted();
        for (int i = 0; i < 24; i++) {
            y.shaft(0, i);
            y.bore(i + 999);
        }
        check.due("24, each moved by 999, need no more", y.told(8), 999);
        y.takeBore(23);
        y.bore(23 + 1000);
        check.due("the last by 1000", y.told(8), Check.NONE);
        y.takeBore(0);
        check.due("23 bores", y.told(8), Check.NONE);
    }

    private static void moreIs(String when, Counted x, int due) {
        int pairs = x.told(3);
        check.due(when, x.told(9), due);
        if (due != Check.NONE) {
            check.due(when + ": with it", x.withBore(due), pairs + 1);
            check.due(when + ": with one less", due == 0 ? pairs : x.withBore(due - 1), pairs);
        }
    }

    private static void moreOfNone() {
        check.sentence("MORE: the least SIZE of one BORE more by which there would be one PAIR more; NONE.");
        Counted x = new Counted();
        moreIs("no parts", x, Check.NONE);
        x.bore(5);
        moreIs("a bore alone", x, Check.NONE);
        x.shaft(0, 5);
        moreIs("all are paired", x, Check.NONE);
        x.shaft(0, 5);
        moreIs("one is not", x, 5);
    }

    private static void moreAtItsBounds() {
        check.sentence("MORE: the least SIZE of one BORE more by which there would be one PAIR more; NONE.");
        int[][] cases = {{0, 0, 0, 0}, {0, 1, 5, 1}, {9999, 0, 0, 9999}, {9999, 0, 999, 9999}, {9999, 1, 1, Check.NONE},
            {9999, 1, 999, Check.NONE}, {9000, 999, 999, 9999}, {9001, 999, 999, Check.NONE}};
        for (int[] c : cases) {
            Counted x = new Counted();
            x.grade(3, c[1], c[2]);
            x.shaft(3, c[0]);
            moreIs("shaft " + c[0] + " with " + c[1] + " to " + c[2], x, c[3]);
        }
    }

    private static void moreIsTheLeast() {
        check.sentence("MORE: the least SIZE of one BORE more by which there would be one PAIR more; NONE.");
        Counted x = new Counted();
        x.grade(0, 10, 20);
        x.grade(1, 0, 1);
        x.shaft(0, 500);
        x.shaft(0, 300);
        x.shaft(1, 305);
        moreIs("the least beginning, not of the least size", x, 305);
        x.bore(305);
        moreIs("then the next", x, 310);
        x.bore(320);
        moreIs("then the last", x, 510);
        x.bore(520);
        moreIs("then none", x, Check.NONE);
        Counted y = new Counted();
        for (int size : new int[] {350, 150, 120, 250, 110, 100, 200, 300}) {
            y.shaft(0, size);
        }
        y.bore(300);
        y.bore(100);
        y.bore(200);
        moreIs("the least of five that would help", y, 110);
    }

    private static void moreBesideABoreThatDoesNotGo() {
        check.sentence("MORE: the least SIZE of one BORE more by which there would be one PAIR more; NONE.");
        Counted x = new Counted();
        x.grade(0, 0, 5);
        x.shaft(0, 100);
        x.bore(106);
        moreIs("a bore just behind the span", x, 100);
        x.takeBore(0);
        x.bore(99);
        moreIs("a bore just ahead of it", x, 100);
        x.takeBore(0);
        x.bore(105);
        moreIs("a bore at its end", x, Check.NONE);
    }

    private static void moreByOthersPairedAnew() {
        check.sentence("MORE: the least SIZE of one BORE more by which there would be one PAIR more; NONE.");
        Counted x = new Counted();
        x.grade(0, 0, 10);
        x.grade(1, 0, 0);
        x.shaft(0, 90);
        x.shaft(0, 95);
        x.shaft(1, 105);
        x.bore(100);
        x.bore(105);
        check.due("bore of shaft 2", x.shaftAt(2, 2), Check.NONE);
        check.due("its like has it", x.shaftAt(1, 2), 1);
        moreIs("the first's beginning helps the last", x, 90);
    }

    private static void moreWithAllBores() {
        check.sentence("MORE: the least SIZE of one BORE more by which there would be one PAIR more; NONE.");
        Counted x = new Counted();
        for (int b = 0; b < 24; b++) {
            x.bore(7);
        }
        moreIs("no shaft", x, Check.NONE);
        x.shaft(0, 9);
        moreIs("one that no bore fits", x, 9);
        check.due("bores are as many as were", x.told(1), 24);
    }

    private static void moreWithAllSorts() {
        check.sentence("MORE: the least SIZE of one BORE more by which there would be one PAIR more; NONE.");
        Counted x = new Counted();
        x.shaft(0, 9);
        for (int size = 100; size < 147; size++) {
            x.bore(size);
            x.takeBore(0);
        }
        check.due("sorts", x.told(2), 48);
        check.due("no room for such a bore", x.bore(9), Check.FULL);
        moreIs("though it would be a new sort", x, 9);
        check.due("sorts are as many as were", x.told(2), 48);
    }

    private static void boxesAre(String when, Counted x, int... due) {
        for (int k = 0; k <= 9; k++) {
            check.due(when + ": boxes(" + k + ")", x.boxes(k), due[Math.min(k, due.length - 1)]);
        }
    }

    private static void boxOrderByPlace() {
        check.sentence("BOXES: parts are in order by SIZE, those of SHAFTS with their LEAST PLAY put to them (a SHAFT ahead of a BORE, if these are alike; then by number).");
        Counted x = new Counted();
        x.grade(0, 0, 20);
        x.grade(1, 50, 60);
        x.shaft(1, 100);
        x.shaft(0, 110);
        x.bore(155);
        x.bore(120);
        boxesAre("110, 120, 150, 155", x, 0, 1, 2);
    }

    private static void boxOrderShaftAhead() {
        check.sentence("BOXES: parts are in order by SIZE, those of SHAFTS with their LEAST PLAY put to them (a SHAFT ahead of a BORE, if these are alike; then by number).");
        Counted x = new Counted();
        x.grade(0, 0, 10);
        x.grade(1, 0, 50);
        x.bore(100);
        x.bore(150);
        x.shaft(1, 100);
        x.shaft(0, 90);
        boxesAre("a shaft at 100 is between those at 90 and the bore at 100", x, 0, 1);
        x.takeShaft(0);
        x.shaft(1, 101);
        boxesAre("at 101 it is not", x, 0, 1, 2);
    }

    private static void boxOrderByNumber() {
        check.sentence("BOXES: parts are in order by SIZE, those of SHAFTS with their LEAST PLAY put to them (a SHAFT ahead of a BORE, if these are alike; then by number).");
        Counted x = new Counted();
        x.grade(1, 0, 10);
        x.shaft(0, 100);
        x.shaft(1, 100);
        x.bore(105);
        boxesAre("the wide one is beside the bore", x, 0, 1);
        x.takeShaft(0);
        x.shaft(0, 100);
        boxesAre("the narrow one is between", x, 0);
        Counted y = new Counted();
        y.grade(1, 50, 60);
        y.shaft(1, 50);
        y.shaft(0, 100);
        y.bore(110);
        boxesAre("by number, not by size", y, 0);
    }

    private static void boxSideBySide() {
        check.sentence("A BOX is a row of parts side by side in that order in which each BORE FITS each SHAFT.");
        Counted x = new Counted();
        boxesAre("no parts", x, 0);
        x.grade(0, 0, 100);
        x.grade(1, 0, 5);
        x.shaft(0, 100);
        boxesAre("a shaft alone", x, 0);
        x.bore(180);
        boxesAre("a pair", x, 0, 1);
        x.shaft(1, 150);
        boxesAre("a shaft between that it does not fit", x, 0);
        x.bore(140);
        boxesAre("a bore on this side", x, 0, 1);
        x.bore(155);
        boxesAre("and one on that", x, 0, 1, 2);
        Counted y = new Counted();
        y.grade(0, 0, 0);
        y.grade(1, 0, 100);
        y.shaft(1, 10);
        y.shaft(0, 40);
        y.bore(60);
        boxesAre("a pair that is not side by side", y, 0);
        check.due("though it is a pair", y.told(3), 1);
    }

    private static void boxEachFitsEach() {
        check.sentence("A BOX is a row of parts side by side in that order in which each BORE FITS each SHAFT.");
        int[] lastBore = {109, 110, 111, 112};
        int[] due = {2, 2, 1, 1};
        for (int i = 0; i < lastBore.length; i++) {
            Counted x = new Counted();
            x.grade(0, 0, 10);
            x.shaft(0, 100);
            x.shaft(0, 101);
            x.bore(105);
            x.bore(lastBore[i]);
            check.due("the last bore at " + lastBore[i], x.boxes(1), due[i]);
        }
        int[] lastShaft = {99, 100, 101, 102};
        int[] worth = {2, 2, 1, 1};
        for (int i = 0; i < lastShaft.length; i++) {
            Counted x = new Counted();
            x.grade(0, 0, 10);
            x.shaft(0, 95);
            x.shaft(0, lastShaft[i]);
            x.bore(100);
            x.bore(105);
            check.due("the last shaft at " + lastShaft[i], x.boxes(1), worth[i]);
        }
    }

    private static void worthIsTheFewer() {
        check.sentence("WORTH of a BOX: as many as there are SHAFTS, or BORES, of which there are fewer.");
        for (int shafts = 0; shafts <= 24; shafts += 4) {
            for (int bores = 0; bores <= 24; bores += 3) {
                Counted x = new Counted();
                for (int i = 0; i < shafts; i++) {
                    x.shaft(2, 50);
                }
                for (int i = 0; i < bores; i++) {
                    x.bore(50);
                }
                check.due(shafts + " shafts, " + bores + " bores", x.boxes(1), Math.min(shafts, bores));
            }
        }
    }

    private static void boxesFromNoneToNine() {
        check.sentence("WORTHS of k BOXES (0 .. 9): the most WORTH of k BOXES or fewer together, that have no part in common.");
        Counted x = new Counted();
        for (int i = 0; i < 24; i++) {
            x.shaft(0, 10 * i);
            x.bore(10 * i);
        }
        boxesAre("24 pairs far apart", x, 0, 1, 2, 3, 4, 5, 6, 7, 8, 9);
        for (int k : new int[] {-1, 10, Integer.MIN_VALUE, Integer.MAX_VALUE}) {
            check.refused("boxes(" + k + ")", Scenes::full, y -> y.boxes(k), Check.OUTSIDE);
            check.refused("boxes(" + k + ") of nothing", Scenes::empty, y -> y.boxes(k), Check.OUTSIDE);
        }
        check.due("asked for fewer after more", x.boxes(2), 2);
        check.due("and for none", x.boxes(0), 0);
    }

    private static void boxesOrFewer() {
        check.sentence("WORTHS of k BOXES (0 .. 9): the most WORTH of k BOXES or fewer together, that have no part in common.");
        Counted x = new Counted();
        x.shaft(0, 5);
        x.bore(5);
        boxesAre("one pair", x, 0, 1);
        x.shaft(0, 8);
        x.bore(8);
        boxesAre("two pairs apart", x, 0, 1, 2);
    }

    private static void boxesWithNoPartInCommon() {
        check.sentence("WORTHS of k BOXES (0 .. 9): the most WORTH of k BOXES or fewer together, that have no part in common.");
        Counted x = new Counted();
        x.grade(0, 0, 50);
        x.shaft(0, 100);
        x.bore(110);
        x.bore(120);
        boxesAre("one shaft, two bores", x, 0, 1);
        Counted y = new Counted();
        y.grade(0, 0, 50);
        y.shaft(0, 100);
        y.bore(110);
        y.bore(120);
        y.shaft(0, 115);
        boxesAre("two boxes that meet", y, 0, 1, 2);
        Counted z = new Counted();
        z.grade(0, 0, 20);
        z.grade(1, 0, 100);
        z.shaft(0, 100);
        z.bore(105);
        z.bore(110);
        z.shaft(1, 107);
        z.shaft(1, 108);
        z.bore(121);
        boxesAre("two in one, else one each", z, 0, 2, 3);
    }
}
