/** The sentences about deeds, PAIRED and PLAY: each with none, one, all, and those that are alike. */
public final class PairsEdgesTest {
    private static final Check check = new Check("PairsEdgesTest");

    public static void main(String[] args) {
        putBehindAll();
        takenGoes();
        toldPlay();
        putAwayNone();
        putAwayOne();
        putAwayAll();
        putAwayLeavesSorts();
        batchComes();
        clearedGoes();
        boresRising();
        boresAlikeByNumber();
        spanThatEndsFirst();
        lessSizeOfLikeEnds();
        leastNumberOfLikeOnes();
        onlyWhomItFits();
        onlyThoseNotPairedYet();
        leftIfThereIsNone();
        noWayHasMore();
        playOfAPair();
        leastAndGreatestPlay();
        playOfPairsAlone();
        check.end();
    }

    private static void pairsAre(String when, Counted x, int... boreOf) {
        int pairs = 0;
        for (int s = 0; s < boreOf.length; s++) {
            check.due(when + ": bore of shaft " + s, x.shaftAt(s, 2), boreOf[s]);
            if (boreOf[s] != Check.NONE) {
                check.due(when + ": shaft of bore " + boreOf[s], x.boreAt(boreOf[s], 1), s);
                pairs++;
            }
        }
        check.due(when + ": pairs", x.told(3), pairs);
        check.due(when + ": shafts left", x.told(4), boreOf.length - pairs);
        check.due(when + ": bores left", x.told(5), x.told(1) - pairs);
    }

    private static void putBehindAll() {
        check.sentence("PUT: a SHAFT, a BORE comes (behind all).");
        Counted x = new Counted();
        for (int i = 0; i < 5; i++) {
            check.due("shaft " + i, x.shaft(i % 4, 90 - i), i);
            check.due("bore " + i, x.bore(80 - i), i);
        }
        for (int i = 0; i < 5; i++) {
            check.due("size of shaft " + i, x.shaftAt(i, 1), 90 - i);
            check.due("size of bore " + i, x.boreAt(i, 0), 80 - i);
        }
    }

    private static void takenGoes() {
        check.sentence("TAKEN: it goes.");
        Counted x = new Counted();
        x.shaft(3, 40);
        x.bore(41);
        check.due("takeShaft(0)", x.takeShaft(0), 40);
        check.due("no shaft", x.told(0), 0);
        check.due("of its grade", x.gradeAt(3, 2), 0);
        check.due("a bore still", x.told(1), 1);
        check.due("takeBore(0)", x.takeBore(0), 41);
        check.due("no bore", x.told(1), 0);
        check.refused("takeShaft(0) of none", Scenes::empty, y -> y.takeShaft(0), Check.UNKNOWN);
        check.refused("takeBore(0) of none", Scenes::empty, y -> y.takeBore(0), Check.UNKNOWN);
    }

    private static void toldPlay() {
        check.sentence("TOLD: PLAY of a GRADE.");
        Counted x = new Counted();
        x.shaft(0, 10);
        x.shaft(1, 10);
        x.bore(12);
        x.bore(12);
        check.due("no play, no pair", x.told(3), 0);
        check.due("grade(0, 2, 2)", x.grade(0, 2, 2), 1);
        check.due("grade(1, 0, 2)", x.grade(1, 0, 2), 2);
        check.due("grade(1, 0, 1)", x.grade(1, 0, 1), 1);
        check.due("grade 0 as it was", x.gradeAt(0, 1), 2);
        check.due("grade(2, 5, 6), of no shaft", x.grade(2, 5, 6), 1);
    }

    private static void putAwayNone() {
        check.sentence("PUT AWAY: all that are PAIRED go (SORTS stay).");
        check.refused("no parts", Scenes::empty, x -> x.putAway(), Check.NOT);
        check.refused("a shaft alone", x -> x.shaft(0, 5), x -> x.putAway(), Check.NOT);
        check.refused("a bore alone", x -> x.bore(5), x -> x.putAway(), Check.NOT);
        Looks.Run apart = x -> {
            x.shaft(0, 5);
            x.bore(6);
        };
        check.refused("both, but no pair", apart, x -> x.putAway(), Check.NOT);
        Looks.Run twice = x -> {
            Scenes.some(x);
            x.putAway();
        };
        check.refused("put away already", twice, x -> x.putAway(), Check.NOT);
    }

    private static void putAwayOne() {
        check.sentence("PUT AWAY: all that are PAIRED go (SORTS stay).");
        Counted x = new Counted();
        x.shaft(0, 5);
        x.bore(5);
        check.due("putAway()", x.putAway(), 1);
        check.due("shafts", x.told(0), 0);
        check.due("bores", x.told(1), 0);
        check.due("pairs", x.told(3), 0);
    }

    private static void putAwayAll() {
        check.sentence("PUT AWAY: all that are PAIRED go (SORTS stay).");
        Counted x = new Counted();
        Scenes.full(x);
        check.due("putAway()", x.putAway(), 24);
        check.due("shafts", x.told(0), 0);
        check.due("bores", x.told(1), 0);
        check.due("sorts", x.told(2), 48);
        check.due("undo(1)", x.undo(1), 48);
        check.due("pairs again", x.told(3), 24);
    }

    private static void putAwayLeavesSorts() {
        check.sentence("PUT AWAY: all that are PAIRED go (SORTS stay).");
        Counted x = new Counted();
        x.bore(9);
        x.shaft(0, 7);
        x.bore(7);
        x.shaft(1, 8);
        x.bore(9);
        check.due("putAway()", x.putAway(), 1);
        check.due("shafts", x.told(0), 1);
        check.due("the shaft that was left", x.shaftAt(0, 1), 8);
        check.due("bores", x.told(1), 2);
        check.due("sorts", x.told(2), 4);
        check.due("now of the shaft's sort", x.sort(1, 2), 0);
        check.due("ever of the shaft's sort", x.sort(1, 3), 1);
        check.due("now of the bore's sort", x.sort(2, 2), 0);
        check.due("find(4, 7)", x.find(4, 7), 2);
        check.due("now of those left", x.sort(0, 2), 2);
    }

    private static void batchComes() {
        check.sentence("BATCH: n parts by DRAWS come.");
        Counted x = new Counted();
        check.due("batch(1)", x.batch(1), 1);
        check.due("batch(20)", x.batch(20), 20);
        check.due("shafts and bores", x.told(0) + x.told(1), 21);
        check.due("the first is ahead of all", x.shaftAt(0, 1), 1068);
        Counted atOnce = new Counted();
        atOnce.batch(5);
        Counted oneByOne = new Counted();
        for (int i = 0; i < 5; i++) {
            oneByOne.batch(1);
        }
        for (int s = 0; s < 5; s++) {
            check.due("shaft " + s, oneByOne.shaftAt(s, 1), atOnce.shaftAt(s, 1));
        }
    }

    private static void clearedGoes() {
        check.sentence("CLEARED: all parts and SORTS go.");
        Counted none = new Counted();
        check.due("clear() of nothing", none.clear(), 0);
        Counted one = new Counted();
        one.bore(5);
        check.due("clear() of one", one.clear(), 1);
        Counted all = new Counted();
        Scenes.full(all);
        check.due("clear() of all", all.clear(), 48);
        for (int what = 0; what <= 5; what++) {
            check.due("told(" + what + ")", all.told(what), 0);
        }
        check.due("grades stay", all.gradeAt(3, 0), 999);
        check.due("undo(1)", all.undo(1), 48);
        check.due("sorts again", all.told(2), 48);
        Counted gone = new Counted();
        gone.bore(5);
        gone.takeBore(0);
        check.due("clear() of a sort with none left", gone.clear(), 0);
        check.due("sorts", gone.told(2), 0);
    }

    private static void boresRising() {
        check.sentence("PAIRED: BORES are gone through rising by SIZE (of like ones by number).");
        Counted x = new Counted();
        x.grade(0, 0, 100);
        x.shaft(0, 50);
        x.bore(72);
        x.bore(71);
        x.bore(70);
        pairsAre("the least is first, though it came last", x, 2);
        x.shaft(0, 51);
        pairsAre("then the next", x, 2, 1);
        x.takeBore(2);
        pairsAre("those that are there", x, 1, 0);
    }

    private static void boresAlikeByNumber() {
        check.sentence("PAIRED: BORES are gone through rising by SIZE (of like ones by number).");
        Counted x = new Counted();
        x.grade(0, 0, 100);
        x.shaft(0, 50);
        x.bore(70);
        x.bore(70);
        x.bore(70);
        pairsAre("the first of three alike", x, 0);
        x.shaft(0, 49);
        pairsAre("whose span ends first has the first", x, 1, 0);
        x.takeBore(0);
        pairsAre("numbers less by one", x, 1, 0);
    }

    private static void spanThatEndsFirst() {
        check.sentence("At each the SHAFT is PAIRED with it, of all that are not PAIRED yet and whom it FITS, whose SPAN ends first");
        Counted x = new Counted();
        x.grade(0, 0, 10);
        x.grade(1, 0, 11);
        x.shaft(1, 100);
        x.shaft(0, 100);
        x.bore(105);
        pairsAre("111 and 110", x, Check.NONE, 0);
        x.grade(1, 0, 9);
        pairsAre("109 and 110", x, 0, Check.NONE);
        x.bore(106);
        pairsAre("one each", x, 0, 1);
        x.shaft(0, 98);
        pairsAre("108 comes", x, 1, Check.NONE, 0);
    }

    private static void lessSizeOfLikeEnds() {
        check.sentence("(of like ones the one of less SIZE, of these the least number);");
        Counted x = new Counted();
        x.grade(0, 0, 10);
        x.grade(1, 0, 11);
        x.shaft(0, 100);
        x.shaft(1, 99);
        x.bore(105);
        pairsAre("both end at 110: 100, 99", x, Check.NONE, 0);
        Counted y = new Counted();
        y.grade(0, 0, 10);
        y.grade(1, 0, 11);
        y.shaft(1, 99);
        y.shaft(0, 100);
        y.bore(105);
        pairsAre("both end at 110: 99, 100", y, 0, Check.NONE);
        // Less SIZE is not the same as an earlier beginning.
        Counted z = new Counted();
        z.grade(0, 5, 10);
        z.grade(1, 8, 12);
        z.shaft(0, 100);
        z.shaft(1, 98);
        z.bore(106);
        pairsAre("the less size begins later", z, Check.NONE, 0);
    }

    private static void leastNumberOfLikeOnes() {
        check.sentence("(of like ones the one of less SIZE, of these the least number);");
        Counted x = new Counted();
        x.grade(0, 5, 10);
        x.grade(1, 0, 10);
        x.shaft(1, 100);
        x.shaft(0, 100);
        x.shaft(1, 100);
        x.bore(105);
        pairsAre("the first, whatever its grade", x, 0, Check.NONE, Check.NONE);
        x.bore(106);
        pairsAre("then the second", x, 0, 1, Check.NONE);
        x.takeShaft(0);
        pairsAre("numbers less by one", x, 0, 1);
        x.takeBore(1);
        pairsAre("the least number then", x, 0, Check.NONE);
    }

    private static void onlyWhomItFits() {
        check.sentence("At each the SHAFT is PAIRED with it, of all that are not PAIRED yet and whom it FITS, whose SPAN ends first");
        Counted x = new Counted();
        x.grade(0, 6, 10);
        x.grade(1, 0, 50);
        x.shaft(0, 100);
        x.shaft(1, 100);
        x.bore(105);
        pairsAre("ahead of the span that ends first", x, Check.NONE, 0);
        x.bore(106);
        pairsAre("at its beginning", x, 1, 0);
        x.takeBore(1);
        x.takeBore(0);
        x.bore(111);
        pairsAre("behind its end", x, Check.NONE, 0);
        x.takeBore(0);
        x.bore(110);
        pairsAre("at its end", x, 0, Check.NONE);
    }

    private static void onlyThoseNotPairedYet() {
        check.sentence("At each the SHAFT is PAIRED with it, of all that are not PAIRED yet and whom it FITS, whose SPAN ends first");
        Counted x = new Counted();
        x.grade(0, 0, 10);
        x.shaft(0, 100);
        x.bore(101);
        x.bore(102);
        pairsAre("one shaft takes one bore", x, 0);
        check.due("the other is left", x.boreAt(1, 1), Check.NONE);
        check.due("though it fits", x.boreAt(1, 2), 1);
    }

    private static void leftIfThereIsNone() {
        check.sentence("if there is none, it is left.");
        Counted x = new Counted();
        x.bore(5);
        check.due("no shaft at all", x.boreAt(0, 1), Check.NONE);
        check.due("bores left", x.told(5), 1);
        x.shaft(0, 6);
        check.due("no shaft that it fits", x.boreAt(0, 1), Check.NONE);
        check.due("bores left", x.told(5), 1);
        check.due("shafts left", x.told(4), 1);
        x.bore(6);
        check.due("a later one is not", x.boreAt(1, 1), 0);
        check.due("bores left", x.told(5), 1);
        check.due("shafts left", x.told(4), 0);
    }

    /** All ways to have 3 SHAFTS of two GRADES and 3 BORES on the SIZES 0 to 3. */
    private static void noWayHasMore() {
        check.sentence("(No way to pair has more PAIRS.)");
        int[][] play = {{0, 1}, {1, 3}};
        for (int shafts = 0; shafts < 512; shafts++) {
            for (int bores = 0; bores < 64; bores++) {
                Counted x = new Counted();
                x.grade(0, play[0][0], play[0][1]);
                x.grade(1, play[1][0], play[1][1]);
                int[] begin = new int[3];
                int[] end = new int[3];
                int[] size = new int[3];
                for (int i = 0; i < 3; i++) {
                    int kind = shafts >> 3 * i & 7;
                    x.shaft(kind / 4, kind % 4);
                    begin[i] = kind % 4 + play[kind / 4][0];
                    end[i] = kind % 4 + play[kind / 4][1];
                    size[i] = bores >> 2 * i & 3;
                    x.bore(size[i]);
                }
                check.due("pairs of " + shafts + ", " + bores, x.told(3), most(begin, end, size, 0, 0));
            }
        }
    }

    /** The most PAIRS of the SHAFTS from s on with the BORES that are not in taken. */
    private static int most(int[] begin, int[] end, int[] size, int s, int taken) {
        if (s == begin.length) {
            return 0;
        }
        int most = most(begin, end, size, s + 1, taken);
        for (int b = 0; b < size.length; b++) {
            if ((taken >> b & 1) == 0 && begin[s] <= size[b] && size[b] <= end[s]) {
                most = Math.max(most, 1 + most(begin, end, size, s + 1, taken | 1 << b));
            }
        }
        return most;
    }

    private static void playOfAPair() {
        check.sentence("PLAY of a PAIR: the BORE's SIZE less the SHAFT's.");
        for (int play : new int[] {0, 1, 500, 999}) {
            Counted x = new Counted();
            x.grade(3, 0, 999);
            x.shaft(3, 9000);
            x.bore(9000 + play);
            check.due("the least", x.told(6), play);
            check.due("the greatest", x.told(7), play);
        }
    }

    private static void leastAndGreatestPlay() {
        check.sentence("6 the least PLAY of a PAIR, 7 the greatest (6, 7: NONE),");
        Counted x = new Counted();
        check.due("no part: the least", x.told(6), Check.NONE);
        check.due("no part: the greatest", x.told(7), Check.NONE);
        x.grade(0, 0, 10);
        x.shaft(0, 100);
        x.shaft(0, 200);
        x.shaft(0, 300);
        x.bore(99);
        check.due("no pair: the least", x.told(6), Check.NONE);
        check.due("no pair: the greatest", x.told(7), Check.NONE);
        x.bore(204);
        check.due("one pair: the least", x.told(6), 4);
        check.due("one pair: the greatest", x.told(7), 4);
        x.bore(103);
        x.bore(309);
        check.due("three pairs: the least", x.told(6), 3);
        check.due("three pairs: the greatest", x.told(7), 9);
        x.bore(300);
        check.due("what is left has no play: the greatest", x.told(7), 4);
        check.due("the least", x.told(6), 0);
    }

    private static void playOfPairsAlone() {
        check.sentence("6 the least PLAY of a PAIR, 7 the greatest (6, 7: NONE),");
        Counted x = new Counted();
        x.grade(0, 0, 6);
        x.grade(1, 0, 10);
        x.shaft(0, 100);
        x.shaft(1, 105);
        x.bore(106);
        pairsAre("it fits both, and one span ends first", x, 0, Check.NONE);
        check.due("less play would be with the other", x.told(6), 6);
        x.bore(105);
        pairsAre("the lesser bore to the span that ends first", x, 1, 0);
        check.due("the least", x.told(6), 1);
        check.due("more play would be the other way", x.told(7), 5);
    }
}
