import java.util.ArrayList;
import java.util.List;

/** All that can be asked of an object, in several looks, as one alone would take more than its 512 calls. */
final class Looks {
    /** Calls on a new object: what can be run twice can be looked at twice. */
    interface Run {
        void on(Counted x);
    }

    interface Look {
        void at(Counted x, List<Integer> seen);
    }

    static final List<Look> ALL = List.of(
            Looks::parts, Looks::sorts, Looks::asked, Looks::undone,
            (x, seen) -> image(x, 0, seen), (x, seen) -> image(x, 1, seen), Looks::forgotten);

    private Looks() { }

    static List<Integer> of(Run run, Look look) {
        Counted x = new Counted();
        run.on(x);
        List<Integer> seen = new ArrayList<>();
        look.at(x, seen);
        return seen;
    }

    /** One after the other on the same new object. */
    static Run both(Run first, Run second) {
        return x -> {
            first.on(x);
            second.on(x);
        };
    }

    private static void parts(Counted x, List<Integer> seen) {
        for (int what = 0; what <= 15; what++) {
            seen.add(x.told(what));
        }
        grades(x, seen);
        int shafts = x.told(0);
        for (int s = 0; s < shafts; s++) {
            for (int what = 0; what <= 5; what++) {
                seen.add(x.shaftAt(s, what));
            }
        }
        int bores = x.told(1);
        for (int b = 0; b < bores; b++) {
            for (int what = 0; what <= 3; what++) {
                seen.add(x.boreAt(b, what));
            }
        }
    }

    private static void grades(Counted x, List<Integer> seen) {
        for (int g = 0; g <= 3; g++) {
            for (int what = 0; what <= 2; what++) {
                seen.add(x.gradeAt(g, what));
            }
        }
    }

    private static void sorts(Counted x, List<Integer> seen) {
        int sorts = x.told(2);
        seen.add(sorts);
        for (int k = 0; k < sorts; k++) {
            for (int what = 0; what <= 3; what++) {
                seen.add(x.sort(k, what));
            }
            seen.add(x.find(x.sort(k, 0), x.sort(k, 1)));
        }
    }

    private static void asked(Counted x, List<Integer> seen) {
        for (int what = 0; what <= 3; what++) {
            seen.add(x.crowd(what));
        }
        for (int k = 0; k <= 9; k++) {
            seen.add(x.boxes(k));
        }
        for (int size = 0; size <= 9999; size += 101) {
            seen.add(x.withBore(size));
        }
        seen.add(x.seed(0));
    }

    private static void undone(Counted x, List<Integer> seen) {
        int deeds = x.told(15);
        for (int n = 0; n <= deeds; n++) {
            for (int what = 0; what <= 5; what++) {
                seen.add(x.told(what));
            }
            grades(x, seen);
            seen.add(x.undo(1));
        }
        seen.add(x.seed(0));
    }

    private static void image(Counted x, int i, List<Integer> seen) {
        seen.add(x.goBack(i));
        parts(x, seen);
        seen.add(x.seed(0));
    }

    private static void forgotten(Counted x, List<Integer> seen) {
        seen.add(x.forget());
        for (int what = 10; what <= 14; what++) {
            seen.add(x.told(what));
        }
    }
}
