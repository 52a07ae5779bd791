import java.util.ArrayList;
import java.util.Collections;
import java.util.List;

/** The document once more, as plainly as it can be said and without regard to time: what ModelTest compares with. */
final class Model {
    record Part(int grade, int size) { }

    /** What can be undone, as a value. */
    private static final class State {
        List<Part> shafts = new ArrayList<>();
        List<Part> bores = new ArrayList<>();
        List<Part> sorts = new ArrayList<>();
        List<Integer> ever = new ArrayList<>();
        int[] least = new int[4];
        int[] most = new int[4];

        State copy() {
            State c = new State();
            c.shafts.addAll(shafts);
            c.bores.addAll(bores);
            c.sorts.addAll(sorts);
            c.ever.addAll(ever);
            c.least = least.clone();
            c.most = most.clone();
            return c;
        }
    }

    private record Seen(int grade, int size, boolean went) { }

    private State now = new State();
    private final List<State> past = new ArrayList<>();
    private final List<Seen> seen = new ArrayList<>();
    private final State[] images = new State[2];
    private final long[] imageSeeds = new long[2];
    private long seed = 0;

    private int begin(Part p) {
        return p.size + now.least[p.grade];
    }

    private int end(Part p) {
        return p.size + now.most[p.grade];
    }

    private boolean fits(int bore, Part shaft, int ease) {
        return begin(shaft) - ease <= bore && bore <= end(shaft) + ease;
    }

    /** For each SHAFT the BORE it is PAIRED with. */
    private int[] paired(List<Part> bores, int ease) {
        int[] boreOf = new int[now.shafts.size()];
        java.util.Arrays.fill(boreOf, -1);
        List<Integer> order = new ArrayList<>();
        for (int b = 0; b < bores.size(); b++) {
            order.add(b);
        }
        order.sort((a, b) -> bores.get(a).size != bores.get(b).size ? bores.get(a).size - bores.get(b).size : a - b);
        for (int b : order) {
            List<Integer> can = new ArrayList<>();
            for (int s = 0; s < boreOf.length; s++) {
                if (boreOf[s] == -1 && fits(bores.get(b).size, now.shafts.get(s), ease)) {
                    can.add(s);
                }
            }
            if (!can.isEmpty()) {
                boreOf[Collections.min(can, this::compareClosing)] = b;
            }
        }
        return boreOf;
    }

    private int compareClosing(int s, int t) {
        Part p = now.shafts.get(s);
        Part q = now.shafts.get(t);
        return end(p) != end(q) ? end(p) - end(q) : p.size != q.size ? p.size - q.size : s - t;
    }

    private static int count(int[] boreOf) {
        int pairs = 0;
        for (int b : boreOf) {
            pairs += b >= 0 ? 1 : 0;
        }
        return pairs;
    }

    private int pairs() {
        return count(paired(now.bores, 0));
    }

    /** As many PAIRS as there can be, by another way: each BORE in turn, others being moved. */
    int mostPairs() {
        int[] shaftToBore = new int[now.shafts.size()];
        java.util.Arrays.fill(shaftToBore, -1);
        int pairs = 0;
        for (int b = 0; b < now.bores.size(); b++) {
            pairs += place(b, shaftToBore, new boolean[shaftToBore.length]) ? 1 : 0;
        }
        return pairs;
    }

    private boolean place(int b, int[] shaftToBore, boolean[] been) {
        for (int s = 0; s < shaftToBore.length; s++) {
            if (!been[s] && fits(now.bores.get(b).size, now.shafts.get(s), 0)) {
                been[s] = true;
                if (shaftToBore[s] == -1 || place(shaftToBore[s], shaftToBore, been)) {
                    shaftToBore[s] = b;
                    return true;
                }
            }
        }
        return false;
    }

    int told(int what) {
        return switch (what) {
            case 0 -> now.shafts.size();
            case 1 -> now.bores.size();
            case 2 -> now.sorts.size();
            case 3 -> pairs();
            case 4 -> now.shafts.size() - pairs();
            case 5 -> now.bores.size() - pairs();
            case 6 -> plays().stream().mapToInt(i -> i).min().orElse(Check.NONE);
            case 7 -> plays().stream().mapToInt(i -> i).max().orElse(Check.NONE);
            case 8 -> ease();
            case 9 -> more();
            case 10 -> seen.size();
            case 11 -> sizes().size();
            case 12 -> sizes().isEmpty() ? Check.NONE : sizes().get(0);
            case 13 -> sizes().isEmpty() ? Check.NONE : sizes().get(sizes().size() - 1);
            case 14 -> toTry();
            case 15 -> past.size();
            default -> Check.OUTSIDE;
        };
    }

    private List<Integer> plays() {
        List<Integer> plays = new ArrayList<>();
        int[] boreOf = paired(now.bores, 0);
        for (int s = 0; s < boreOf.length; s++) {
            if (boreOf[s] >= 0) {
                plays.add(now.bores.get(boreOf[s]).size - now.shafts.get(s).size);
            }
        }
        return plays;
    }

    private int ease() {
        for (int e = 0; e <= 999; e++) {
            if (count(paired(now.bores, e)) == now.shafts.size()) {
                return e;
            }
        }
        return Check.NONE;
    }

    private int more() {
        int pairs = pairs();
        for (int size = 0; size < 10000; size++) {
            boolean fitsAny = false;
            for (Part p : now.shafts) {
                fitsAny |= fits(size, p, 0);
            }
            if (fitsAny && withBore(size) > pairs) {
                return size;
            }
        }
        return Check.NONE;
    }

    private List<Integer> sizes() {
        List<Integer> sizes = new ArrayList<>();
        for (int size = 0; size < 10000; size++) {
            boolean so = true;
            for (Seen s : seen) {
                so &= fits(size, new Part(s.grade, s.size), 0) == s.went;
            }
            if (so) {
                sizes.add(size);
            }
        }
        return sizes;
    }

    private int toTry() {
        List<Integer> sizes = sizes();
        int best = Check.NONE;
        int bestGreater = 0;
        for (int s = 0; s < now.shafts.size(); s++) {
            int in = 0;
            for (int size : sizes) {
                in += fits(size, now.shafts.get(s), 0) ? 1 : 0;
            }
            int out = sizes.size() - in;
            if (in > 0 && out > 0 && (best == Check.NONE || Math.max(in, out) < bestGreater)) {
                best = s;
                bestGreater = Math.max(in, out);
            }
        }
        return best;
    }

    int shaftAt(int s, int what) {
        if (s < 0 || s >= now.shafts.size()) {
            return Check.UNKNOWN;
        }
        Part p = now.shafts.get(s);
        return switch (what) {
            case 0 -> p.grade;
            case 1 -> p.size;
            case 2 -> paired(now.bores, 0)[s];
            case 3 -> begin(p);
            case 4 -> end(p);
            case 5 -> now.sorts.indexOf(p);
            default -> Check.OUTSIDE;
        };
    }

    int boreAt(int b, int what) {
        if (b < 0 || b >= now.bores.size()) {
            return Check.UNKNOWN;
        }
        Part p = now.bores.get(b);
        return switch (what) {
            case 0 -> p.size;
            case 1 -> {
                int found = Check.NONE;
                int[] boreOf = paired(now.bores, 0);
                for (int s = 0; s < boreOf.length; s++) {
                    found = boreOf[s] == b ? s : found;
                }
                yield found;
            }
            case 2 -> (int) now.shafts.stream().filter(q -> fits(p.size, q, 0)).count();
            case 3 -> now.sorts.indexOf(p);
            default -> Check.OUTSIDE;
        };
    }

    int gradeAt(int g, int what) {
        if (g < 0 || g > 3) {
            return Check.UNKNOWN;
        }
        return switch (what) {
            case 0 -> now.least[g];
            case 1 -> now.most[g];
            case 2 -> (int) now.shafts.stream().filter(p -> p.grade == g).count();
            default -> Check.OUTSIDE;
        };
    }

    int sort(int k, int what) {
        if (k < 0 || k >= now.sorts.size()) {
            return Check.UNKNOWN;
        }
        Part p = now.sorts.get(k);
        return switch (what) {
            case 0 -> p.grade;
            case 1 -> p.size;
            case 2 -> Collections.frequency(now.shafts, p) + Collections.frequency(now.bores, p);
            case 3 -> now.ever.get(k);
            default -> Check.OUTSIDE;
        };
    }

    private static boolean isSize(int size) {
        return size >= 0 && size <= 9999;
    }

    int find(int grade, int size) {
        return grade < 0 || grade > 4 || !isSize(size) ? Check.OUTSIDE : now.sorts.indexOf(new Part(grade, size));
    }

    private void deed() {
        past.add(now.copy());
        if (past.size() > 16) {
            past.remove(0);
        }
    }

    private boolean hasRoom(Part p) {
        List<Part> like = p.grade == 4 ? now.bores : now.shafts;
        return like.size() < 24 && (now.sorts.contains(p) || now.sorts.size() < 48);
    }

    private int put(Part p) {
        sortIn(p);
        List<Part> like = p.grade == 4 ? now.bores : now.shafts;
        like.add(p);
        return like.size() - 1;
    }

    private void sortIn(Part p) {
        int k = now.sorts.indexOf(p);
        if (k < 0) {
            now.sorts.add(p);
            now.ever.add(1);
        } else {
            now.ever.set(k, now.ever.get(k) + 1);
        }
    }

    int shaft(int g, int size) {
        if (g < 0 || g > 3) {
            return Check.UNKNOWN;
        }
        return putDeed(g, size);
    }

    int bore(int size) {
        return putDeed(4, size);
    }

    private int putDeed(int g, int size) {
        if (!isSize(size)) {
            return Check.OUTSIDE;
        }
        if (!hasRoom(new Part(g, size))) {
            return Check.FULL;
        }
        deed();
        return put(new Part(g, size));
    }

    int takeShaft(int s) {
        if (s < 0 || s >= now.shafts.size()) {
            return Check.UNKNOWN;
        }
        deed();
        return now.shafts.remove(s).size;
    }

    int takeBore(int b) {
        if (b < 0 || b >= now.bores.size()) {
            return Check.UNKNOWN;
        }
        deed();
        return now.bores.remove(b).size;
    }

    int grade(int g, int least, int most) {
        if (g < 0 || g > 3) {
            return Check.UNKNOWN;
        }
        if (least < 0 || least > 999 || most < 0 || most > 999 || least > most) {
            return Check.OUTSIDE;
        }
        deed();
        now.least[g] = least;
        now.most[g] = most;
        return pairs();
    }

    int putAway() {
        int[] boreOf = paired(now.bores, 0);
        if (count(boreOf) == 0) {
            return Check.NOT;
        }
        deed();
        List<Part> shafts = new ArrayList<>();
        List<Part> bores = new ArrayList<>();
        List<Integer> gone = new ArrayList<>();
        for (int s = 0; s < boreOf.length; s++) {
            if (boreOf[s] < 0) {
                shafts.add(now.shafts.get(s));
            } else {
                gone.add(boreOf[s]);
            }
        }
        for (int b = 0; b < now.bores.size(); b++) {
            if (!gone.contains(b)) {
                bores.add(now.bores.get(b));
            }
        }
        now.shafts = shafts;
        now.bores = bores;
        return gone.size();
    }

    private int draw(int n) {
        seed = (seed * 1103515245L + 12345L) & 0x7fffffffL;
        return (int) ((seed >> 16) % n);
    }

    int batch(int n) {
        if (n < 1 || n > 20) {
            return Check.OUTSIDE;
        }
        deed();
        int came = 0;
        for (int i = 0; i < n; i++) {
            int grade = draw(5);
            Part p = new Part(grade, draw(100) + 1000);
            if (hasRoom(p)) {
                put(p);
                came++;
            }
        }
        return came;
    }

    int clear() {
        deed();
        int parts = now.shafts.size() + now.bores.size();
        now.shafts.clear();
        now.bores.clear();
        now.sorts.clear();
        now.ever.clear();
        return parts;
    }

    int undo(int n) {
        if (n < 1 || n > 16) {
            return Check.OUTSIDE;
        }
        if (n > past.size()) {
            return Check.NOT;
        }
        for (int i = 0; i < n; i++) {
            now = past.remove(past.size() - 1);
        }
        return now.shafts.size() + now.bores.size();
    }

    int crowd(int what) {
        if (what < 0 || what > 3) {
            return Check.OUTSIDE;
        }
        int[] best = null;
        for (int x = 0; x < 12000; x++) {
            for (Part p : now.shafts) {
                if (begin(p) == x) {
                    best = better(best, crowdFrom(x));
                    break;
                }
            }
        }
        return best == null ? Check.NONE : best[what];
    }

    private int[] crowdFrom(int x) {
        int[] best = null;
        List<Integer> ends = new ArrayList<>();
        for (Part p : now.shafts) {
            ends.add(end(p));
        }
        Collections.sort(ends);
        for (int y : ends) {
            int shafts = (int) now.shafts.stream().filter(p -> begin(p) >= x && end(p) <= y).count();
            int bores = (int) now.bores.stream().filter(p -> p.size >= x && p.size <= y).count();
            if (shafts > bores) {
                best = better(best, new int[] {x, y, shafts, bores});
            }
        }
        return best;
    }

    private static int[] better(int[] first, int[] second) {
        if (first == null || second == null) {
            return first == null ? second : first;
        }
        return second[2] - second[3] > first[2] - first[3] ? second : first;
    }

    private record Placed(int place, boolean isBore, int number, Part part) { }

    int boxes(int k) {
        if (k < 0 || k > 9) {
            return Check.OUTSIDE;
        }
        List<Placed> row = new ArrayList<>();
        for (int s = 0; s < now.shafts.size(); s++) {
            row.add(new Placed(begin(now.shafts.get(s)), false, s, now.shafts.get(s)));
        }
        for (int b = 0; b < now.bores.size(); b++) {
            row.add(new Placed(now.bores.get(b).size, true, b, now.bores.get(b)));
        }
        row.sort((a, b) -> a.place != b.place ? a.place - b.place
                : a.isBore != b.isBore ? (a.isBore ? 1 : -1) : a.number - b.number);
        int n = row.size();
        int[][] most = new int[k + 1][n + 1];
        for (int boxes = 1; boxes <= k; boxes++) {
            for (int to = 1; to <= n; to++) {
                most[boxes][to] = Math.max(most[boxes - 1][to], most[boxes][to - 1]);
                for (int from = 0; from < to; from++) {
                    int worth = worth(row.subList(from, to));
                    most[boxes][to] = Math.max(most[boxes][to], most[boxes - 1][from] + worth);
                }
            }
        }
        return most[k][n];
    }

    /** 0 also for what is no BOX. */
    private int worth(List<Placed> row) {
        int shafts = 0;
        int bores = 0;
        for (Placed a : row) {
            shafts += a.isBore ? 0 : 1;
            bores += a.isBore ? 1 : 0;
            for (Placed b : row) {
                if (!a.isBore && b.isBore && !fits(b.part.size, a.part, 0)) {
                    return 0;
                }
            }
        }
        return Math.min(shafts, bores);
    }

    int withBore(int size) {
        if (!isSize(size)) {
            return Check.OUTSIDE;
        }
        List<Part> bores = new ArrayList<>(now.bores);
        bores.add(new Part(4, size));
        return count(paired(bores, 0));
    }

    int see(int g, int size, boolean went) {
        if (g < 0 || g > 3) {
            return Check.UNKNOWN;
        }
        if (!isSize(size)) {
            return Check.OUTSIDE;
        }
        if (seen.size() == 6) {
            return Check.FULL;
        }
        seen.add(new Seen(g, size, went));
        return seen.size();
    }

    int forget() {
        int was = seen.size();
        seen.clear();
        return was;
    }

    int seed(int v) {
        if (v < 0) {
            return Check.OUTSIDE;
        }
        int was = (int) seed;
        seed = v;
        return was;
    }

    int keep(int i) {
        if (i < 0 || i > 1) {
            return Check.UNKNOWN;
        }
        images[i] = now.copy();
        imageSeeds[i] = seed;
        past.clear();
        return 1;
    }

    int goBack(int i) {
        if (i < 0 || i > 1) {
            return Check.UNKNOWN;
        }
        if (images[i] == null) {
            return Check.NOT;
        }
        now = images[i].copy();
        seed = imageSeeds[i];
        past.clear();
        now.sorts.clear();
        now.ever.clear();
        now.shafts.forEach(this::sortIn);
        now.bores.forEach(this::sortIn);
        return 1;
    }
}
