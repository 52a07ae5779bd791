/** The sentences about what is SEEN, SIZES and TRY: each with none, one, as many as may be, and those that are alike. */
public final class SeenEdgesTest {
    private static final Check check = new Check("SeenEdgesTest");

    public static void main(String[] args) {
        sixAtMost();
        gradeOfWhatIsSeen();
        sizeOfWhatIsSeen();
        nothingSeenAllSizes();
        wentAtBothEnds();
        didNotAtBothEnds();
        sizesEndAtNothing();
        sizesEndAtTheGreatest();
        oneSize();
        noSize();
        sixGaps();
        sixGapsSevenRows();
        aGapOverSeveral();
        seenAnew();
        gapsThatMeet();
        gapsWithinOneAnother();
        tryOfNone();
        tryTheGreaterPart();
        tryTheLeastOfLikeOnes();
        tryThePairedToo();
        tryPartsNothing();
        tryAtTheEdges();
        check.end();
    }

    private static void sizesAre(String when, Counted x, int count, int least, int greatest) {
        check.due(when + ": how many", x.told(11), count);
        check.due(when + ": the least", x.told(12), least);
        check.due(when + ": the greatest", x.told(13), greatest);
    }

    private static void sixAtMost() {
        check.sentence("SEEN (6 at most): an unknown BORE (SIZE 0 .. 9999) went with a SHAFT of a GRADE and SIZE, or did not.");
        Counted x = new Counted();
        check.due("nothing", x.told(10), 0);
        for (int i = 1; i <= 6; i++) {
            check.due("see", x.see(1, 5, true), i);
            check.due("how much", x.told(10), i);
        }
        check.due("the 7th", x.see(1, 5, true), Check.FULL);
        check.due("how much", x.told(10), 6);
        check.due("forget()", x.forget(), 6);
        check.due("the first again", x.see(1, 5, true), 1);
        check.refused("the 7th that would leave no size", Scenes::full, y -> y.see(0, 0, false), Check.FULL);
        check.refused("the 7th alike", Scenes::full, y -> y.see(0, 0, true), Check.FULL);
    }

    private static void gradeOfWhatIsSeen() {
        check.sentence("SEEN (6 at most): an unknown BORE (SIZE 0 .. 9999) went with a SHAFT of a GRADE and SIZE, or did not.");
        for (int g = 0; g <= 3; g++) {
            Counted x = new Counted();
            x.grade(g, 10, 20);
            check.due("see(" + g + ", 100, true)", x.see(g, 100, true), 1);
            sizesAre("grade " + g, x, 11, 110, 120);
            x.forget();
            x.see((g + 1) % 4, 100, true);
            sizesAre("another grade", x, 1, 100, 100);
        }
        for (int g : new int[] {-1, 4, Integer.MIN_VALUE, Integer.MAX_VALUE}) {
            check.refused("see(" + g + ", 0, true)", Scenes::some, y -> y.see(g, 0, true), Check.UNKNOWN);
        }
    }

    private static void sizeOfWhatIsSeen() {
        check.sentence("SEEN (6 at most): an unknown BORE (SIZE 0 .. 9999) went with a SHAFT of a GRADE and SIZE, or did not.");
        for (int size : new int[] {0, 1, 9998, 9999}) {
            Counted x = new Counted();
            check.due("see(0, " + size + ", true)", x.see(0, size, true), 1);
            sizesAre("size " + size, x, 1, size, size);
        }
        for (int size : new int[] {-1, 10000, Integer.MIN_VALUE, Integer.MAX_VALUE}) {
            check.refused("see(0, " + size + ", false)", Scenes::some, y -> y.see(0, size, false), Check.OUTSIDE);
        }
    }

    private static void nothingSeenAllSizes() {
        check.sentence("SIZES by which all that is SEEN is so: how many; the least; the greatest; NONE.");
        Counted x = new Counted();
        sizesAre("nothing seen", x, 10000, 0, 9999);
        x.see(0, 50, true);
        x.forget();
        sizesAre("forgotten", x, 10000, 0, 9999);
    }

    private static void wentAtBothEnds() {
        check.sentence("SIZES by which all that is SEEN is so: how many; the least; the greatest; NONE.");
        Counted x = new Counted();
        x.grade(2, 3, 9);
        x.see(2, 100, true);
        sizesAre("103 to 109", x, 7, 103, 109);
        x.see(2, 106, true);
        sizesAre("109 to 115 too", x, 1, 109, 109);
        x.see(2, 107, true);
        sizesAre("110 to 116 too", x, 0, Check.NONE, Check.NONE);
    }

    private static void didNotAtBothEnds() {
        check.sentence("SIZES by which all that is SEEN is so: how many; the least; the greatest; NONE.");
        Counted x = new Counted();
        x.grade(0, 0, 9);
        x.grade(1, 0, 2);
        x.see(0, 100, true);
        x.see(1, 98, false);
        sizesAre("not 98 to 100", x, 9, 101, 109);
        x.see(1, 98, false);
        sizesAre("not so again", x, 9, 101, 109);
        x.see(1, 109, false);
        sizesAre("not 109 to 111", x, 8, 101, 108);
        x.see(1, 104, false);
        sizesAre("not 104 to 106", x, 5, 101, 108);
        x.see(1, 110, false);
        sizesAre("not 110 to 112, which were not in", x, 5, 101, 108);
    }

    private static void sizesEndAtNothing() {
        check.sentence("SIZES by which all that is SEEN is so: how many; the least; the greatest; NONE.");
        Counted x = new Counted();
        x.see(0, 0, false);
        sizesAre("not 0", x, 9999, 1, 9999);
        x.see(0, 1, false);
        sizesAre("nor 1", x, 9998, 2, 9999);
        x.forget();
        x.grade(0, 0, 999);
        x.see(0, 0, true);
        sizesAre("0 to 999", x, 1000, 0, 999);
    }

    private static void sizesEndAtTheGreatest() {
        check.sentence("SIZES by which all that is SEEN is so: how many; the least; the greatest; NONE.");
        Counted x = new Counted();
        x.see(0, 9999, false);
        sizesAre("not 9999", x, 9999, 0, 9998);
        x.see(0, 9998, false);
        sizesAre("nor 9998", x, 9998, 0, 9997);
        x.forget();
        x.grade(0, 0, 999);
        x.see(0, 9001, true);
        sizesAre("9001 to 10000, of which 10000 is no size", x, 999, 9001, 9999);
        x.forget();
        x.see(0, 9999, true);
        sizesAre("9999 to 10998", x, 1, 9999, 9999);
        x.forget();
        x.see(0, 9999, false);
        sizesAre("not 9999 to 10998", x, 9999, 0, 9998);
        x.forget();
        x.grade(0, 1, 999);
        x.see(0, 9999, true);
        sizesAre("10000 to 10998", x, 0, Check.NONE, Check.NONE);
        x.forget();
        x.see(0, 9999, false);
        sizesAre("not 10000 to 10998", x, 10000, 0, 9999);
    }

    private static void oneSize() {
        check.sentence("SIZES by which all that is SEEN is so: how many; the least; the greatest; NONE.");
        Counted x = new Counted();
        x.grade(0, 0, 1);
        x.see(0, 700, true);
        x.see(0, 701, false);
        sizesAre("700 alone", x, 1, 700, 700);
    }

    private static void noSize() {
        check.sentence("SIZES by which all that is SEEN is so: how many; the least; the greatest; NONE.");
        Counted x = new Counted();
        x.see(0, 700, true);
        x.see(0, 700, false);
        sizesAre("it went and did not", x, 0, Check.NONE, Check.NONE);
        check.due("see goes on", x.see(0, 5, false), 3);
        sizesAre("still none", x, 0, Check.NONE, Check.NONE);
        check.due("nothing to try", x.told(14), Check.NONE);
    }

    private static void sixGaps() {
        check.sentence("SIZES by which all that is SEEN is so: how many; the least; the greatest; NONE.");
        Counted x = new Counted();
        x.grade(0, 0, 99);
        int[] at = {0, 9900, 5000, 2000, 7000, 4000};
        int[][] due = {{9900, 100, 9999}, {9800, 100, 9899}, {9700, 100, 9899}, {9600, 100, 9899}, {9500, 100, 9899},
            {9400, 100, 9899}};
        for (int i = 0; i < 6; i++) {
            x.see(0, at[i], false);
            sizesAre("gap " + i, x, due[i][0], due[i][1], due[i][2]);
        }
    }

    private static void sixGapsSevenRows() {
        check.sentence("SEEN (6 at most): an unknown BORE (SIZE 0 .. 9999) went with a SHAFT of a GRADE and SIZE, or did not.");
        int[][] orders = {{1000, 2000, 3000, 4000, 5000, 6000}, {6000, 5000, 4000, 3000, 2000, 1000},
            {3000, 1000, 6000, 2000, 5000, 4000}};
        for (int[] at : orders) {
            Counted x = new Counted();
            x.grade(0, 0, 99);
            x.grade(1, 0, 999);
            for (int i = 0; i < 6; i++) {
                x.see(0, at[i], false);
                sizesAre((i + 1) + " gaps", x, 10000 - 100 * (i + 1), 0, 9999);
            }
            for (int s = 0; s <= 9; s++) {
                x.shaft(1, 1000 * s);
            }
            check.due("the greater part is least, where no gap is", x.told(14), 0);
        }
    }

    private static void aGapOverSeveral() {
        check.sentence("SIZES by which all that is SEEN is so: how many; the least; the greatest; NONE.");
        Counted x = new Counted();
        x.grade(0, 0, 9);
        x.grade(1, 0, 300);
        for (int size : new int[] {2000, 2100, 2200}) {
            x.see(0, size, false);
        }
        sizesAre("three gaps", x, 9970, 0, 9999);
        x.see(1, 1950, false);
        sizesAre("one over all", x, 9699, 0, 9999);
        x.see(0, 3000, false);
        x.see(0, 4000, false);
        sizesAre("two more behind it", x, 9679, 0, 9999);
    }

    private static void seenAnew() {
        check.sentence("SIZES by which all that is SEEN is so: how many; the least; the greatest; NONE.");
        Counted x = new Counted();
        x.grade(0, 0, 99);
        x.see(0, 1000, false);
        x.see(0, 2000, false);
        sizesAre("two gaps", x, 9800, 0, 9999);
        x.forget();
        x.see(0, 5000, false);
        sizesAre("forgotten, one gap", x, 9900, 0, 9999);
        x.see(0, 4900, false);
        sizesAre("two gaps side by side", x, 9800, 0, 9999);
        x.forget();
        x.see(0, 9900, false);
        sizesAre("forgotten, a gap at the end", x, 9900, 0, 9899);
    }

    private static void gapsThatMeet() {
        check.sentence("SIZES by which all that is SEEN is so: how many; the least; the greatest; NONE.");
        Counted x = new Counted();
        x.grade(0, 0, 9);
        x.grade(1, 0, 999);
        x.see(1, 1000, true);
        x.see(0, 1500, false);
        x.see(0, 1510, false);
        sizesAre("side by side", x, 980, 1000, 1999);
        x.see(0, 1505, false);
        sizesAre("over both", x, 980, 1000, 1999);
        x.see(0, 1521, false);
        sizesAre("one size between", x, 970, 1000, 1999);
        x.see(0, 1511, false);
        sizesAre("that size too", x, 969, 1000, 1999);
    }

    private static void gapsWithinOneAnother() {
        check.sentence("SIZES by which all that is SEEN is so: how many; the least; the greatest; NONE.");
        Counted x = new Counted();
        x.grade(0, 0, 9);
        x.grade(1, 0, 99);
        x.see(0, 550, false);
        x.see(1, 500, false);
        sizesAre("a gap within a later one", x, 9900, 0, 9999);
        x.see(0, 595, false);
        sizesAre("over its end", x, 9895, 0, 9999);
        x.see(1, 505, true);
        sizesAre("nothing is left there", x, 0, Check.NONE, Check.NONE);
    }

    private static void tryIs(String when, Counted x, int due) {
        check.due(when + ": try", x.told(14), due);
    }

    private static void tryOfNone() {
        check.sentence("TRY: the SHAFT that there is by which these are told apart best: the greater part is least; of like ones the least; NONE: none parts them.");
        Counted x = new Counted();
        tryIs("no shaft", x, Check.NONE);
        x.bore(5);
        tryIs("a bore alone", x, Check.NONE);
        x.see(0, 5, false);
        tryIs("what is seen is no shaft that there is", x, Check.NONE);
        x.shaft(0, 7);
        tryIs("a shaft", x, 0);
        x.takeShaft(0);
        tryIs("it is gone", x, Check.NONE);
    }

    private static void tryTheGreaterPart() {
        check.sentence("TRY: the SHAFT that there is by which these are told apart best: the greater part is least; of like ones the least; NONE: none parts them.");
        Counted x = new Counted();
        x.grade(0, 0, 9);
        x.see(0, 100, true);
        x.shaft(0, 91);
        tryIs("1 and 9", x, 0);
        x.shaft(0, 108);
        tryIs("2 and 8", x, 1);
        x.shaft(0, 97);
        tryIs("7 and 3", x, 2);
        x.shaft(0, 96);
        tryIs("6 and 4", x, 3);
        x.shaft(0, 105);
        tryIs("5 and 5", x, 4);
        x.shaft(0, 94);
        tryIs("4 and 6 is not better", x, 4);
        x.see(0, 105, true);
        tryIs("of 105 to 109: 108 on is 2 and 3", x, 1);
    }

    private static void tryTheLeastOfLikeOnes() {
        check.sentence("TRY: the SHAFT that there is by which these are told apart best: the greater part is least; of like ones the least; NONE: none parts them.");
        Counted x = new Counted();
        x.grade(0, 0, 9);
        x.see(0, 100, true);
        x.shaft(0, 50);
        x.shaft(0, 104);
        x.shaft(0, 96);
        tryIs("6 and 4: 104 to 109, 100 to 105", x, 1);
        x.shaft(0, 95);
        tryIs("5 and 5", x, 3);
        x.shaft(0, 106);
        tryIs("4 and 6 is less good", x, 3);
        x.takeShaft(3);
        tryIs("those alike: the least", x, 1);
        x.takeShaft(1);
        tryIs("then the next", x, 1);
    }

    private static void tryThePairedToo() {
        check.sentence("TRY: the SHAFT that there is by which these are told apart best: the greater part is least; of like ones the least; NONE: none parts them.");
        Counted x = new Counted();
        x.grade(0, 0, 9);
        x.see(0, 100, true);
        x.shaft(0, 102);
        x.shaft(0, 105);
        tryIs("5 and 5", x, 1);
        x.bore(114);
        check.due("it is paired", x.shaftAt(1, 2), 0);
        tryIs("it is there all the same", x, 1);
        x.putAway();
        tryIs("it is put away: 8 and 2", x, 0);
    }

    private static void tryPartsNothing() {
        check.sentence("TRY: the SHAFT that there is by which these are told apart best: the greater part is least; of like ones the least; NONE: none parts them.");
        Counted x = new Counted();
        x.grade(0, 0, 9);
        x.grade(1, 0, 99);
        x.see(0, 100, true);
        x.shaft(0, 100);
        tryIs("just all are in it", x, Check.NONE);
        x.shaft(1, 50);
        tryIs("all and more are in it", x, Check.NONE);
        x.shaft(0, 90);
        tryIs("none is, it ends ahead of them", x, Check.NONE);
        x.shaft(0, 110);
        tryIs("none is, it begins behind them", x, Check.NONE);
        x.shaft(0, 109);
        tryIs("one is", x, 4);
        x.see(0, 91, true);
        tryIs("one size is left", x, Check.NONE);
        x.see(0, 91, false);
        tryIs("no size is left", x, Check.NONE);
    }

    private static void tryAtTheEdges() {
        check.sentence("TRY: the SHAFT that there is by which these are told apart best: the greater part is least; of like ones the least; NONE: none parts them.");
        Counted x = new Counted();
        x.grade(0, 1, 999);
        x.shaft(0, 9999);
        tryIs("no size is in its span", x, Check.NONE);
        x.shaft(0, 9998);
        tryIs("9999 is", x, 1);
        x.grade(1, 0, 0);
        x.shaft(1, 0);
        tryIs("0 is alike", x, 1);
        x.shaft(0, 9000);
        tryIs("999 are", x, 3);
        x.shaft(0, 9001);
        tryIs("998 are", x, 3);
    }
}
