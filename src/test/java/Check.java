import java.util.List;

/** Counts the answers that are not as due and tells them; a test ends with exit code 1 if there was one. */
final class Check {
    static final int NONE = -1;
    static final int UNKNOWN = -1000000001;
    static final int OUTSIDE = -1000000002;
    static final int NOT = -1000000003;
    static final int FULL = -1000000004;
    /** Numbers that are out of every bound but the seed's. */
    static final int[] WILD = {-1, -2, Integer.MIN_VALUE, Integer.MIN_VALUE + 1, -10000, 10000, 1000000, 65536, -65536,
        Integer.MAX_VALUE - 1, Integer.MAX_VALUE};

    /** A call and what it answered. */
    interface Call {
        int on(Counted x);
    }

    private final String test;
    private String sentence = "";
    private int answers = 0;
    private int wrong = 0;

    Check(String test) {
        this.test = test;
    }

    /** The words of the document that what comes next is about; DocumentTest looks for them there. */
    void sentence(String words) {
        sentence = " [" + words + "]";
    }

    void due(String call, long got, long want) {
        answers++;
        if (got != want) {
            wrong++;
            System.out.println(test + sentence + ": " + call + " answered " + got + ", due is " + want);
        }
    }

    void holds(String what, boolean so) {
        due(what, so ? 1 : 0, 1);
    }

    /** Whether nothing that can be asked tells the one run from the other. */
    void alike(String when, Looks.Run one, Looks.Run other) {
        for (int i = 0; i < Looks.ALL.size(); i++) {
            List<Integer> got = Looks.of(one, Looks.ALL.get(i));
            List<Integer> want = Looks.of(other, Looks.ALL.get(i));
            due(when + ": how much look " + i + " tells", got.size(), want.size());
            for (int j = 0; j < Math.min(got.size(), want.size()); j++) {
                due(when + ": place " + j + " of look " + i, got.get(j), want.get(j));
            }
        }
    }

    /** Whether a call is refused so after a run, and all is then as if it had not been called. */
    void refused(String call, Looks.Run run, Call refusedCall, int want) {
        Counted x = new Counted();
        run.on(x);
        due(call, refusedCall.on(x), want);
        alike("after " + call, Looks.both(run, y -> refusedCall.on(y)), run);
    }

    void end() {
        System.out.println(test + ": " + answers + " answers, " + wrong + " not as due");
        if (wrong != 0) {
            System.exit(1);
        }
    }
}
