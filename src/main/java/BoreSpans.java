/** Shafts and bores that are measured, paired, sorted into boxes, undone and kept, as DOC.md promises. */
public final class BoreSpans {
    public static final int NONE = -1, UNKNOWN = -1000000001, OUTSIDE = -1000000002, NOT = -1000000003, FULL = -1000000004;

    private static final int GRADES = 4;
    /** What stands for the GRADE where a part is a BORE. */
    private static final int GRADE_OF_BORES = 4;
    private static final int SIZES = 10000;
    private static final int PLAYS = 1000;
    private static final int MOST_PARTS = 24;
    private static final int MOST_SORTS = 48;
    private static final int MOST_UNDONE = 16;
    private static final int MOST_BATCH = 20;
    private static final int MOST_BOXES = 9;
    private static final int MOST_SEEN = 6;
    private static final int IMAGES = 2;
    private static final long SEEDS = 2147483648L;

    private final Stock stock = new Stock();
    private final Past past = new Past();
    private final Spans spans = new Spans();
    private final Crowding crowding = new Crowding();
    private final BoxTable boxTable = new BoxTable();
    private final Sight sight = new Sight();
    private final Image[] images = new Image[IMAGES];
    private int theSeed = 0;

    public BoreSpans() {
        for (int i = 0; i < IMAGES; i++) {
            images[i] = new Image();
        }
    }

    // ---- parts

    public int told(int what) {
        switch (what) {
            case 0: return stock.shaftCount;
            case 1: return stock.boreCount;
            case 2: return stock.sortCount;
            case 3: return pairUp();
            case 4: return stock.shaftCount - pairUp();
            case 5: return stock.boreCount - pairUp();
            case 6: pairUp(); return spans.leastPlay();
            case 7: pairUp(); return spans.greatestPlay();
            case 8: spans.read(stock); return spans.ease();
            case 9: spans.read(stock); return spans.sizeOfOneMore();
            case 10: return sight.seen;
            case 11: sight.narrow(stock); return sight.count();
            case 12: sight.narrow(stock); return sight.leastSize();
            case 13: sight.narrow(stock); return sight.greatestSize();
            case 14: sight.narrow(stock); return sight.shaftToTry(stock);
            case 15: return past.deeds;
            default: return OUTSIDE;
        }
    }

    public int shaftAt(int s, int what) {
        if (!isIn(s, stock.shaftCount)) {
            return UNKNOWN;
        }
        switch (what) {
            case 0: return gradeOf(stock.shafts[s]);
            case 1: return sizeOf(stock.shafts[s]);
            case 2: pairUp(); return spans.boreOf[s];
            case 3: return stock.begin(stock.shafts[s]);
            case 4: return stock.end(stock.shafts[s]);
            case 5: return stock.sortOf(stock.shafts[s]);
            default: return OUTSIDE;
        }
    }

    public int boreAt(int b, int what) {
        if (!isIn(b, stock.boreCount)) {
            return UNKNOWN;
        }
        switch (what) {
            case 0: return sizeOf(stock.bores[b]);
            case 1: pairUp(); return spans.shaftOf[b];
            case 2: return stock.shaftsFittedBy(sizeOf(stock.bores[b]));
            case 3: return stock.sortOf(stock.bores[b]);
            default: return OUTSIDE;
        }
    }

    public int gradeAt(int g, int what) {
        if (!isIn(g, GRADES)) {
            return UNKNOWN;
        }
        switch (what) {
            case 0: return stock.least[g];
            case 1: return stock.most[g];
            case 2: return stock.shaftsOfGrade(g);
            default: return OUTSIDE;
        }
    }

    public int sort(int k, int what) {
        if (!isIn(k, stock.sortCount)) {
            return UNKNOWN;
        }
        switch (what) {
            case 0: return gradeOf(stock.sorts[k]);
            case 1: return sizeOf(stock.sorts[k]);
            case 2: return stock.partsOfKind(stock.sorts[k]);
            case 3: return stock.ever[k];
            default: return OUTSIDE;
        }
    }

    public int find(int grade, int size) {
        if (!isIn(grade, GRADES + 1) || !isIn(size, SIZES)) {
            return OUTSIDE;
        }
        return stock.sortOf(kindOf(grade, size));
    }

    // ---- deeds

    public int shaft(int g, int size) {
        if (!isIn(g, GRADES)) {
            return UNKNOWN;
        }
        if (!isIn(size, SIZES)) {
            return OUTSIDE;
        }
        return putAsDeed(kindOf(g, size));
    }

    public int bore(int size) {
        if (!isIn(size, SIZES)) {
            return OUTSIDE;
        }
        return putAsDeed(kindOf(GRADE_OF_BORES, size));
    }

    public int takeShaft(int s) {
        if (!isIn(s, stock.shaftCount)) {
            return UNKNOWN;
        }
        past.note(stock);
        int size = sizeOf(stock.shafts[s]);
        stock.dropShaft(s);
        return size;
    }

    public int takeBore(int b) {
        if (!isIn(b, stock.boreCount)) {
            return UNKNOWN;
        }
        past.note(stock);
        int size = sizeOf(stock.bores[b]);
        stock.dropBore(b);
        return size;
    }

    public int grade(int g, int least, int most) {
        if (!isIn(g, GRADES)) {
            return UNKNOWN;
        }
        if (!isIn(least, PLAYS) || !isIn(most, PLAYS) || least > most) {
            return OUTSIDE;
        }
        past.note(stock);
        stock.least[g] = least;
        stock.most[g] = most;
        return pairUp();
    }

    public int putAway() {
        int pairs = pairUp();
        if (pairs == 0) {
            return NOT;
        }
        past.note(stock);
        // Backwards, as a part that goes changes the numbers of later ones alone.
        for (int s = stock.shaftCount - 1; s >= 0; s--) {
            if (spans.boreOf[s] != NONE) {
                stock.dropShaft(s);
            }
        }
        for (int b = stock.boreCount - 1; b >= 0; b--) {
            if (spans.shaftOf[b] != NONE) {
                stock.dropBore(b);
            }
        }
        return pairs;
    }

    public int batch(int n) {
        if (n < 1 || n > MOST_BATCH) {
            return OUTSIDE;
        }
        past.note(stock);
        int came = 0;
        for (int i = 0; i < n; i++) {
            int grade = draw(GRADES + 1);
            int size = draw(100) + 1000;
            if (stock.put(kindOf(grade, size)) != FULL) {
                came++;
            }
        }
        return came;
    }

    public int clear() {
        past.note(stock);
        int parts = stock.parts();
        stock.empty();
        return parts;
    }

    public int undo(int n) {
        if (n < 1 || n > MOST_UNDONE) {
            return OUTSIDE;
        }
        if (n > past.deeds) {
            return NOT;
        }
        past.giveBack(stock, n);
        return stock.parts();
    }

    // ---- asked

    public int crowd(int what) {
        if (!isIn(what, 4)) {
            return OUTSIDE;
        }
        spans.read(stock);
        crowding.seek(spans);
        if (crowding.more == 0) {
            return NONE;
        }
        switch (what) {
            case 0: return crowding.x;
            case 1: return crowding.y;
            case 2: return crowding.shafts;
            default: return crowding.bores;
        }
    }

    public int boxes(int k) {
        if (!isIn(k, MOST_BOXES + 1)) {
            return OUTSIDE;
        }
        boxTable.read(stock);
        return boxTable.mostWorth(k);
    }

    public int withBore(int size) {
        if (!isIn(size, SIZES)) {
            return OUTSIDE;
        }
        spans.read(stock);
        return spans.pairsWith(size);
    }

    // ---- what is seen

    public int see(int g, int size, boolean went) {
        if (!isIn(g, GRADES)) {
            return UNKNOWN;
        }
        if (!isIn(size, SIZES)) {
            return OUTSIDE;
        }
        return sight.note(kindOf(g, size), went);
    }

    public int forget() {
        int seen = sight.seen;
        sight.seen = 0;
        return seen;
    }

    // ---- images

    public int seed(int v) {
        if (v < 0) {
            return OUTSIDE;
        }
        int was = theSeed;
        theSeed = v;
        return was;
    }

    public int keep(int i) {
        if (!isIn(i, IMAGES)) {
            return UNKNOWN;
        }
        images[i].stock.copyFrom(stock);
        images[i].seed = theSeed;
        images[i].kept = true;
        past.deeds = 0;
        return 1;
    }

    public int goBack(int i) {
        if (!isIn(i, IMAGES)) {
            return UNKNOWN;
        }
        if (!images[i].kept) {
            return NOT;
        }
        stock.copyFrom(images[i].stock);
        stock.sortAnew();
        theSeed = images[i].seed;
        past.deeds = 0;
        return 1;
    }

    private int pairUp() {
        spans.read(stock);
        return spans.pair(0);
    }

    private int putAsDeed(int kind) {
        if (!stock.hasRoom(kind)) {
            return FULL;
        }
        past.note(stock);
        return stock.put(kind);
    }

    private int draw(int n) {
        theSeed = (int) ((theSeed * 1103515245L + 12345L) % SEEDS);
        return n < 1 ? 0 : theSeed / 65536 % n;
    }

    private static boolean isIn(int number, int bound) {
        return number >= 0 && number < bound;
    }

    /** GRADE and SIZE as one number, so that parts alike have the same. */
    private static int kindOf(int grade, int size) {
        return grade * SIZES + size;
    }

    private static int gradeOf(int kind) {
        return kind / SIZES;
    }

    private static int sizeOf(int kind) {
        return kind % SIZES;
    }

    /** Parts, GRADES and SORTS: what a deed changes and an undoing gives back. */
    private static final class Stock {
        final int[] shafts = new int[MOST_PARTS];
        final int[] bores = new int[MOST_PARTS];
        final int[] least = new int[GRADES];
        final int[] most = new int[GRADES];
        final int[] sorts = new int[MOST_SORTS];
        final int[] ever = new int[MOST_SORTS];
        int shaftCount = 0;
        int boreCount = 0;
        int sortCount = 0;

        void copyFrom(Stock other) {
            shaftCount = other.shaftCount;
            boreCount = other.boreCount;
            sortCount = other.sortCount;
            System.arraycopy(other.shafts, 0, shafts, 0, shaftCount);
            System.arraycopy(other.bores, 0, bores, 0, boreCount);
            System.arraycopy(other.least, 0, least, 0, GRADES);
            System.arraycopy(other.most, 0, most, 0, GRADES);
            System.arraycopy(other.sorts, 0, sorts, 0, sortCount);
            System.arraycopy(other.ever, 0, ever, 0, sortCount);
        }

        int parts() {
            return shaftCount + boreCount;
        }

        int sortOf(int kind) {
            for (int k = 0; k < sortCount; k++) {
                if (sorts[k] == kind) {
                    return k;
                }
            }
            return NONE;
        }

        boolean hasRoom(int kind) {
            int alike = gradeOf(kind) == GRADE_OF_BORES ? boreCount : shaftCount;
            return alike < MOST_PARTS && (sortCount < MOST_SORTS || sortOf(kind) != NONE);
        }

        int put(int kind) {
            if (!hasRoom(kind)) {
                return FULL;
            }
            countInSort(kind);
            if (gradeOf(kind) == GRADE_OF_BORES) {
                bores[boreCount] = kind;
                return boreCount++;
            }
            shafts[shaftCount] = kind;
            return shaftCount++;
        }

        private void countInSort(int kind) {
            int k = sortOf(kind);
            if (k != NONE) {
                ever[k]++;
            } else if (sortCount < MOST_SORTS) {
                sorts[sortCount] = kind;
                ever[sortCount] = 1;
                sortCount++;
            }
        }

        void sortAnew() {
            sortCount = 0;
            for (int s = 0; s < shaftCount; s++) {
                countInSort(shafts[s]);
            }
            for (int b = 0; b < boreCount; b++) {
                countInSort(bores[b]);
            }
        }

        void dropShaft(int s) {
            if (!isIn(s, shaftCount)) {
                return;
            }
            shaftCount--;
            for (int i = s; i < shaftCount; i++) {
                shafts[i] = shafts[i + 1];
            }
        }

        void dropBore(int b) {
            if (!isIn(b, boreCount)) {
                return;
            }
            boreCount--;
            for (int i = b; i < boreCount; i++) {
                bores[i] = bores[i + 1];
            }
        }

        void empty() {
            shaftCount = 0;
            boreCount = 0;
            sortCount = 0;
        }

        int partsOfKind(int kind) {
            int count = 0;
            for (int s = 0; s < shaftCount; s++) {
                count += shafts[s] == kind ? 1 : 0;
            }
            for (int b = 0; b < boreCount; b++) {
                count += bores[b] == kind ? 1 : 0;
            }
            return count;
        }

        int shaftsOfGrade(int g) {
            int count = 0;
            for (int s = 0; s < shaftCount; s++) {
                count += gradeOf(shafts[s]) == g ? 1 : 0;
            }
            return count;
        }

        int shaftsFittedBy(int boreSize) {
            int count = 0;
            for (int s = 0; s < shaftCount; s++) {
                count += begin(shafts[s]) <= boreSize && boreSize <= end(shafts[s]) ? 1 : 0;
            }
            return count;
        }

        /** Where the SPAN of a SHAFT of this kind begins. */
        int begin(int kind) {
            int g = gradeOf(kind);
            return isIn(g, GRADES) ? sizeOf(kind) + least[g] : sizeOf(kind);
        }

        /** Where the SPAN of a SHAFT of this kind ends. */
        int end(int kind) {
            int g = gradeOf(kind);
            return isIn(g, GRADES) ? sizeOf(kind) + most[g] : sizeOf(kind);
        }
    }

    /** What was ahead of each of the latest deeds, in a ring, so that nothing is made anew. */
    private static final class Past {
        final Stock[] ahead = new Stock[MOST_UNDONE];
        int next = 0;
        int deeds = 0;

        Past() {
            for (int i = 0; i < MOST_UNDONE; i++) {
                ahead[i] = new Stock();
            }
        }

        void note(Stock stock) {
            ahead[next].copyFrom(stock);
            next = (next + 1) % MOST_UNDONE;
            deeds = Math.min(deeds + 1, MOST_UNDONE);
        }

        void giveBack(Stock stock, int n) {
            next = Math.floorMod(next - n, MOST_UNDONE);
            deeds -= n;
            stock.copyFrom(ahead[next]);
        }
    }

    private static final class Image {
        final Stock stock = new Stock();
        int seed = 0;
        boolean kept = false;
    }

    /** The SPANS as they close and the BORES as they rise, and who is PAIRED with whom. */
    private static final class Spans {
        final int[] shaftSize = new int[MOST_PARTS];
        final int[] begin = new int[MOST_PARTS];
        final int[] end = new int[MOST_PARTS];
        final int[] closing = new int[MOST_PARTS];
        final int[] boreOf = new int[MOST_PARTS];
        // One place more than there are BORES, for the one that is only thought of.
        final int[] boreSize = new int[MOST_PARTS + 1];
        final int[] rising = new int[MOST_PARTS + 1];
        final int[] shaftOf = new int[MOST_PARTS + 1];
        int shafts = 0;
        int bores = 0;

        void read(Stock stock) {
            shafts = 0;
            for (int s = 0; s < stock.shaftCount; s++) {
                int kind = stock.shafts[s];
                addShaft(sizeOf(kind), stock.begin(kind), stock.end(kind));
            }
            bores = 0;
            for (int b = 0; b < stock.boreCount; b++) {
                addBore(sizeOf(stock.bores[b]));
            }
        }

        private void addShaft(int size, int from, int to) {
            if (shafts >= MOST_PARTS) {
                return;
            }
            shaftSize[shafts] = size;
            begin[shafts] = from;
            end[shafts] = to;
            int at = shafts;
            while (at > 0 && closesAfter(closing[at - 1], shafts)) {
                closing[at] = closing[at - 1];
                at--;
            }
            closing[at] = shafts;
            shafts++;
        }

        private boolean closesAfter(int s, int t) {
            return end[s] > end[t] || end[s] == end[t] && shaftSize[s] > shaftSize[t];
        }

        private void addBore(int size) {
            if (bores > MOST_PARTS) {
                return;
            }
            boreSize[bores] = size;
            int at = bores;
            while (at > 0 && boreSize[rising[at - 1]] > size) {
                rising[at] = rising[at - 1];
                at--;
            }
            rising[at] = bores;
            bores++;
        }

        private void dropLatestBore() {
            bores--;
            int to = 0;
            for (int i = 0; i <= bores; i++) {
                if (rising[i] != bores) {
                    rising[to] = rising[i];
                    to++;
                }
            }
        }

        /** Pairs with SPANS that are wider by ease at both ends: how many PAIRS. */
        int pair(int ease) {
            for (int s = 0; s < shafts; s++) {
                boreOf[s] = NONE;
            }
            int pairs = 0;
            for (int i = 0; i < bores; i++) {
                int b = rising[i];
                int s = firstToClose(boreSize[b], ease);
                shaftOf[b] = s;
                if (s != NONE) {
                    boreOf[s] = b;
                    pairs++;
                }
            }
            return pairs;
        }

        private int firstToClose(int size, int ease) {
            for (int i = 0; i < shafts; i++) {
                int s = closing[i];
                if (boreOf[s] == NONE && begin[s] - ease <= size && size <= end[s] + ease) {
                    return s;
                }
            }
            return NONE;
        }

        int leastPlay() {
            int least = NONE;
            for (int s = 0; s < shafts; s++) {
                if (boreOf[s] != NONE && (least == NONE || playOf(s) < least)) {
                    least = playOf(s);
                }
            }
            return least;
        }

        int greatestPlay() {
            int greatest = NONE;
            for (int s = 0; s < shafts; s++) {
                if (boreOf[s] != NONE && playOf(s) > greatest) {
                    greatest = playOf(s);
                }
            }
            return greatest;
        }

        private int playOf(int pairedShaft) {
            return boreSize[boreOf[pairedShaft]] - shaftSize[pairedShaft];
        }

        /** By steps that are halved, as what goes with some PLAY goes with more too. */
        int ease() {
            int tooLittle = -1;
            for (int step = 512; step > 0; step /= 2) {
                int tried = tooLittle + step;
                if (tried < PLAYS && pair(tried) < shafts) {
                    tooLittle = tried;
                }
            }
            return tooLittle + 1 < PLAYS ? tooLittle + 1 : NONE;
        }

        /** Only beginnings are tried: a BORE that helps goes to a SHAFT, and one at the beginning of its SPAN helps too. */
        int sizeOfOneMore() {
            int pairs = pair(0);
            int least = NONE;
            if (pairs == shafts) {
                return NONE;
            }
            for (int s = 0; s < shafts; s++) {
                boolean isLess = begin[s] < SIZES && (least == NONE || begin[s] < least);
                if (isLess && pairsWith(begin[s]) > pairs) {
                    least = begin[s];
                }
            }
            return least;
        }

        int pairsWith(int size) {
            addBore(size);
            int pairs = pair(0);
            dropLatestBore();
            return pairs;
        }
    }

    private static final class Crowding {
        int x = 0;
        int y = 0;
        int shafts = 0;
        int bores = 0;
        /** By how many the SHAFTS are more than the BORES; 0: there is no CROWD. */
        int more = 0;

        void seek(Spans spans) {
            more = 0;
            for (int s = 0; s < spans.shafts; s++) {
                seekFrom(spans, spans.begin[s]);
            }
        }

        /** One way through the ends as they rise, as then those within only become more. */
        private void seekFrom(Spans spans, int from) {
            int within = 0;
            int above = firstBoreFrom(spans, from);
            int next = above;
            for (int i = 0; i < spans.shafts; i++) {
                int s = spans.closing[i];
                while (next < spans.bores && spans.boreSize[spans.rising[next]] <= spans.end[s]) {
                    next++;
                }
                if (spans.begin[s] >= from) {
                    within++;
                    weigh(from, spans.end[s], within, next - above);
                }
            }
        }

        private int firstBoreFrom(Spans spans, int size) {
            int i = 0;
            while (i < spans.bores && spans.boreSize[spans.rising[i]] < size) {
                i++;
            }
            return i;
        }

        private void weigh(int from, int to, int within, int there) {
            int found = within - there;
            if (found > more || found == more && more > 0 && from < x) {
                x = from;
                y = to;
                shafts = within;
                bores = there;
                more = found;
            }
        }
    }

    /** The parts in the order of BOXES, and the most WORTH of the first so many of them in so many BOXES. */
    private static final class BoxTable {
        final int[] place = new int[2 * MOST_PARTS];
        final int[] close = new int[2 * MOST_PARTS];
        final boolean[] isBore = new boolean[2 * MOST_PARTS];
        final int[][] worth = new int[MOST_BOXES + 1][2 * MOST_PARTS + 1];
        int parts = 0;

        /** SHAFTS are added first, so that of parts at one place they are ahead. */
        void read(Stock stock) {
            parts = 0;
            for (int s = 0; s < stock.shaftCount; s++) {
                add(stock.begin(stock.shafts[s]), stock.end(stock.shafts[s]), false);
            }
            for (int b = 0; b < stock.boreCount; b++) {
                int size = sizeOf(stock.bores[b]);
                add(size, size, true);
            }
        }

        private void add(int from, int to, boolean bore) {
            if (parts >= 2 * MOST_PARTS) {
                return;
            }
            int at = parts;
            while (at > 0 && place[at - 1] > from) {
                place[at] = place[at - 1];
                close[at] = close[at - 1];
                isBore[at] = isBore[at - 1];
                at--;
            }
            place[at] = from;
            close[at] = to;
            isBore[at] = bore;
            parts++;
        }

        int mostWorth(int k) {
            for (int i = 1; i <= parts; i++) {
                for (int boxes = 1; boxes <= k; boxes++) {
                    worth[boxes][i] = worth[boxes][i - 1];
                }
                tryLastBox(i, k);
            }
            return worth[k][parts];
        }

        /** Each BOX whose last part is the one ahead of i, from the shortest on: if one is none, no longer one is. */
        private void tryLastBox(int i, int k) {
            int shafts = 0;
            int bores = 0;
            int lastBegin = NONE;
            int firstEnd = SIZES + PLAYS;
            int leastBore = SIZES + PLAYS;
            int greatestBore = NONE;
            for (int j = i - 1; j >= 0; j--) {
                if (isBore[j]) {
                    bores++;
                    leastBore = Math.min(leastBore, place[j]);
                    greatestBore = Math.max(greatestBore, place[j]);
                } else {
                    shafts++;
                    lastBegin = Math.max(lastBegin, place[j]);
                    firstEnd = Math.min(firstEnd, close[j]);
                }
                if (lastBegin > leastBore || greatestBore > firstEnd) {
                    return;
                }
                addBox(j, i, k, Math.min(shafts, bores));
            }
        }

        private void addBox(int from, int i, int k, int worthOfIt) {
            for (int boxes = 1; boxes <= k; boxes++) {
                worth[boxes][i] = Math.max(worth[boxes][i], worth[boxes - 1][from] + worthOfIt);
            }
        }
    }

    /** What is SEEN of the unknown BORE, and the rows of SIZES that it leaves. */
    private static final class Sight {
        final int[] kinds = new int[MOST_SEEN];
        final boolean[] went = new boolean[MOST_SEEN];
        // A row may be empty, its first above its last; each SPAN cut out makes at most one row more.
        final int[] first = new int[MOST_SEEN + 1];
        final int[] last = new int[MOST_SEEN + 1];
        int seen = 0;
        int rows = 0;

        int note(int kind, boolean itWent) {
            if (seen >= MOST_SEEN) {
                return FULL;
            }
            kinds[seen] = kind;
            went[seen] = itWent;
            seen++;
            return seen;
        }

        void narrow(Stock stock) {
            rows = 0;
            addRow(0, SIZES - 1);
            for (int i = 0; i < seen; i++) {
                if (went[i]) {
                    leaveOnly(stock.begin(kinds[i]), stock.end(kinds[i]));
                } else {
                    cutOut(stock.begin(kinds[i]), stock.end(kinds[i]));
                }
            }
        }

        private void addRow(int from, int to) {
            if (rows <= MOST_SEEN) {
                first[rows] = from;
                last[rows] = to;
                rows++;
            }
        }

        private void leaveOnly(int from, int to) {
            for (int r = 0; r < rows; r++) {
                first[r] = Math.max(first[r], from);
                last[r] = Math.min(last[r], to);
            }
        }

        private void cutOut(int from, int to) {
            int had = rows;
            for (int r = 0; r < had; r++) {
                if (first[r] <= to && from <= last[r]) {
                    int wasLast = last[r];
                    last[r] = from - 1;
                    if (to < wasLast) {
                        addRow(to + 1, wasLast);
                    }
                }
            }
        }

        int count() {
            return countWithin(0, SIZES - 1);
        }

        private int countWithin(int from, int to) {
            int count = 0;
            for (int r = 0; r < rows; r++) {
                count += Math.max(0, Math.min(last[r], to) - Math.max(first[r], from) + 1);
            }
            return count;
        }

        int leastSize() {
            int least = NONE;
            for (int r = 0; r < rows; r++) {
                if (first[r] <= last[r] && (least == NONE || first[r] < least)) {
                    least = first[r];
                }
            }
            return least;
        }

        int greatestSize() {
            int greatest = NONE;
            for (int r = 0; r < rows; r++) {
                if (first[r] <= last[r]) {
                    greatest = Math.max(greatest, last[r]);
                }
            }
            return greatest;
        }

        int shaftToTry(Stock stock) {
            int all = count();
            int best = NONE;
            int leastGreater = all;
            for (int s = 0; s < stock.shaftCount; s++) {
                int within = countWithin(stock.begin(stock.shafts[s]), stock.end(stock.shafts[s]));
                int greater = Math.max(within, all - within);
                // What parts nothing has all in its greater part.
                if (greater < leastGreater) {
                    best = s;
                    leastGreater = greater;
                }
            }
            return best;
        }
    }
}
