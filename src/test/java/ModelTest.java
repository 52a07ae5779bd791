import java.util.Random;

/** All promises: long runs of calls drawn by fixed seeds, each answer compared with the Model's. */
public final class ModelTest {
    private static final int RUNS = 240;
    /** One step makes four calls at most. */
    private static final int CALLS_OF_A_STEP = 4;
    private static final Check check = new Check("ModelTest");

    private final Random random;
    private final int sizeFrom;
    private final int sizeRange;
    private final int playRange;
    private final int deedShare;
    private final Counted x = new Counted();
    private final Model model = new Model();

    private ModelTest(int run) {
        random = new Random(run);
        int[] ranges = {4, 30, 200, 10000};
        sizeRange = ranges[random.nextInt(ranges.length)];
        int[] starts = {0, 1000, 10000 - sizeRange};
        sizeFrom = sizeRange == 10000 ? 0 : starts[random.nextInt(starts.length)];
        int[] plays = {3, 20, 100, 1000};
        playRange = plays[random.nextInt(plays.length)];
        deedShare = 30 + random.nextInt(50);
    }

    public static void main(String[] args) {
        for (int run = 0; run < RUNS; run++) {
            ModelTest test = new ModelTest(run);
            for (int step = 0; test.x.callsLeft() >= CALLS_OF_A_STEP; step++) {
                test.step("run " + run + ", step " + step);
            }
        }
        check.end();
    }

    private void step(String at) {
        if (random.nextInt(100) < deedShare) {
            deed(at);
        } else {
            ask(at);
        }
    }

    /** A number from 0 to below the bound, seldom one that is out of it. */
    private int number(int bound) {
        int[] wild = {-1, bound, bound + 1, Integer.MIN_VALUE, Integer.MAX_VALUE};
        return random.nextInt(40) == 0 ? wild[random.nextInt(wild.length)] : random.nextInt(Math.max(1, bound));
    }

    private int size() {
        int[] edges = {0, 9999, -1, 10000, Integer.MIN_VALUE, Integer.MAX_VALUE};
        return random.nextInt(50) == 0 ? edges[random.nextInt(edges.length)] : sizeFrom + random.nextInt(sizeRange);
    }

    private int play() {
        int[] edges = {0, 999, 1000, -1, Integer.MIN_VALUE, Integer.MAX_VALUE};
        return random.nextInt(40) == 0 ? edges[random.nextInt(edges.length)] : random.nextInt(playRange);
    }

    private void deed(String at) {
        int kind = random.nextInt(100);
        if (kind < 30) {
            int g = number(4);
            int size = size();
            check.due(at + ": shaft(" + g + ", " + size + ")", x.shaft(g, size), model.shaft(g, size));
        } else if (kind < 58) {
            int size = size();
            check.due(at + ": bore(" + size + ")", x.bore(size), model.bore(size));
        } else if (kind < 64) {
            int s = number(model.told(0));
            check.due(at + ": takeShaft(" + s + ")", x.takeShaft(s), model.takeShaft(s));
        } else if (kind < 70) {
            int b = number(model.told(1));
            check.due(at + ": takeBore(" + b + ")", x.takeBore(b), model.takeBore(b));
        } else if (kind < 76) {
            gradeDeed(at);
        } else {
            rareDeed(at, kind);
        }
    }

    private void gradeDeed(String at) {
        int g = number(4);
        int a = play();
        int b = play();
        boolean swapped = a > b && random.nextInt(10) != 0;
        int least = swapped ? b : a;
        int most = swapped ? a : b;
        check.due(at + ": grade(" + g + ", " + least + ", " + most + ")", x.grade(g, least, most), model.grade(g, least, most));
    }

    private void rareDeed(String at, int kind) {
        if (kind < 78) {
            check.due(at + ": putAway()", x.putAway(), model.putAway());
        } else if (kind < 81) {
            int n = 1 + number(20);
            check.due(at + ": batch(" + n + ")", x.batch(n), model.batch(n));
        } else if (kind < 82) {
            check.due(at + ": clear()", x.clear(), model.clear());
        } else if (kind < 86) {
            int n = random.nextInt(8) == 0 ? number(19) - 1 : 1 + random.nextInt(3);
            check.due(at + ": undo(" + n + ")", x.undo(n), model.undo(n));
        } else if (kind < 93) {
            int g = number(4);
            int size = size();
            boolean went = random.nextInt(3) == 0;
            check.due(at + ": see(" + g + ", " + size + ", " + went + ")", x.see(g, size, went), model.see(g, size, went));
        } else if (kind < 95) {
            check.due(at + ": forget()", x.forget(), model.forget());
        } else if (kind < 96) {
            int v = random.nextInt();
            check.due(at + ": seed(" + v + ")", x.seed(v), model.seed(v));
        } else if (kind < 98) {
            int i = number(2);
            check.due(at + ": keep(" + i + ")", x.keep(i), model.keep(i));
        } else {
            int i = number(2);
            check.due(at + ": goBack(" + i + ")", x.goBack(i), model.goBack(i));
        }
    }

    private void ask(String at) {
        int kind = random.nextInt(12);
        int what = number(kind < 5 ? 16 : 6);
        if (kind < 5) {
            check.due(at + ": told(" + what + ")", x.told(what), model.told(what));
        } else if (kind == 5) {
            int s = number(model.told(0));
            check.due(at + ": shaftAt(" + s + ", " + what + ")", x.shaftAt(s, what), model.shaftAt(s, what));
        } else if (kind == 6) {
            int b = number(model.told(1));
            check.due(at + ": boreAt(" + b + ", " + what + ")", x.boreAt(b, what), model.boreAt(b, what));
        } else if (kind == 7) {
            int g = number(4);
            check.due(at + ": gradeAt(" + g + ", " + what + ")", x.gradeAt(g, what), model.gradeAt(g, what));
        } else if (kind == 8) {
            int k = number(model.told(2));
            check.due(at + ": sort(" + k + ", " + what + ")", x.sort(k, what), model.sort(k, what));
            int g = number(5);
            int size = size();
            check.due(at + ": find(" + g + ", " + size + ")", x.find(g, size), model.find(g, size));
        } else if (kind == 9) {
            check.due(at + ": crowd(" + what + ")", x.crowd(what), model.crowd(what));
            check.due(at + ": a crowd just if shafts are left", x.crowd(0) == Check.NONE ? 0 : 1, Math.min(1, x.told(4)));
        } else if (kind == 10) {
            int k = number(10);
            check.due(at + ": boxes(" + k + ")", x.boxes(k), model.boxes(k));
        } else {
            int size = size();
            check.due(at + ": withBore(" + size + ")", x.withBore(size), model.withBore(size));
            check.due(at + ": no way has more pairs", x.told(3), model.mostPairs());
        }
    }
}
