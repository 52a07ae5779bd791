/** Counts the answers that are not as due and tells them; a test ends with exit code 1 if there was one. */
final class Check {
    static final int NONE = -1;
    static final int UNKNOWN = -1000000001;
    static final int OUTSIDE = -1000000002;
    static final int NOT = -1000000003;
    static final int FULL = -1000000004;
    /** Numbers that are out of every bound. */
    static final int[] WILD = {-1, -2, Integer.MIN_VALUE, Integer.MAX_VALUE, 10000, 1000000};

    private final String test;
    private int answers = 0;
    private int wrong = 0;

    Check(String test) {
        this.test = test;
    }

    void due(String call, long got, long want) {
        answers++;
        if (got != want) {
            wrong++;
            System.out.println(test + ": " + call + " answered " + got + ", due is " + want);
        }
    }

    /** Two looks at objects: whether they tell the same. */
    void same(String when, int[] got, int[] want) {
        due(when + ": how much there is to tell", got.length, want.length);
        for (int i = 0; i < Math.min(got.length, want.length); i++) {
            due(when + ": place " + i + " of the look", got[i], want[i]);
        }
    }

    /** All that can be asked of an object, so that two looks tell whether anything changed. */
    static int[] look(BoreSpans x) {
        java.util.ArrayList<Integer> all = new java.util.ArrayList<>();
        for (int what = 0; what < 16; what++) {
            all.add(x.told(what));
        }
        for (int s = 0; s < 24; s++) {
            for (int what = 0; what < 6; what++) {
                all.add(x.shaftAt(s, what));
            }
            for (int what = 0; what < 4; what++) {
                all.add(x.boreAt(s, what));
            }
        }
        for (int g = 0; g < 4; g++) {
            for (int what = 0; what < 3; what++) {
                all.add(x.gradeAt(g, what));
            }
        }
        for (int k = 0; k < 48; k++) {
            for (int what = 0; what < 4; what++) {
                all.add(x.sort(k, what));
            }
        }
        for (int k = 0; k < 10; k++) {
            all.add(x.boxes(k));
        }
        for (int what = 0; what < 4; what++) {
            all.add(x.crowd(what));
        }
        int seed = x.seed(0);
        x.seed(seed);
        all.add(seed);
        return all.stream().mapToInt(Integer::intValue).toArray();
    }

    void end() {
        System.out.println(test + ": " + answers + " answers, " + wrong + " not as due");
        if (wrong != 0) {
            System.exit(1);
        }
    }
}
