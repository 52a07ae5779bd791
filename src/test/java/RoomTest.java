import java.lang.management.ManagementFactory;

/** What a run makes: an object's rows are made with it, and no call makes any more. */
public final class RoomTest {
    private static final Check check = new Check("RoomTest");

    public static void main(String[] args) {
        var threads = (com.sun.management.ThreadMXBean) ManagementFactory.getThreadMXBean();
        long own = Thread.currentThread().getId();
        // Once ahead of what is counted, as loading the classes makes objects too.
        allCalls(new BoreSpans());
        threads.getThreadAllocatedBytes(own);

        long start = threads.getThreadAllocatedBytes(own);
        BoreSpans x = new BoreSpans();
        long made = threads.getThreadAllocatedBytes(own);
        for (int i = 0; i < 16; i++) {
            allCalls(x);
        }
        long used = threads.getThreadAllocatedBytes(own);
        System.out.println("RoomTest: " + (made - start) + " bytes an object, " + (used - made) + " by calls");
        check.due("an object is small", made - start < 40000 ? 1 : 0, 1);
        check.due("calls make nothing", used - made < 2000 ? 1 : 0, 1);
        check.end();
    }

    private static void allCalls(BoreSpans x) {
        x.grade(0, 2, 30);
        x.shaft(0, 1000);
        x.bore(1010);
        x.batch(20);
        for (int what = 0; what < 16; what++) {
            x.told(what);
            x.shaftAt(0, what);
            x.boreAt(0, what);
            x.gradeAt(0, what);
            x.sort(0, what);
            x.crowd(what);
            x.boxes(what);
        }
        x.find(4, 1010);
        x.withBore(1020);
        x.see(0, 1000, true);
        x.see(0, 1005, false);
        x.forget();
        x.putAway();
        x.takeShaft(0);
        x.takeBore(0);
        x.undo(2);
        x.keep(0);
        x.seed(9);
        x.goBack(0);
        x.clear();
    }
}
