import com.sun.management.ThreadMXBean;
import java.lang.management.ManagementFactory;

/** All calls of a run live in one room: the rows are made with the object, and the calls make nothing. */
public final class RoomTest {
    private static final Due D = new Due("RoomTest");
    private static final ThreadMXBean MEASURE = (ThreadMXBean) ManagementFactory.getThreadMXBean();
    private static final long MOST_FOR_AN_OBJECT = 100000;
    private static final long MOST_FOR_ALL_CALLS = 4096;

    public static void main(String[] args) {
        goThrough(new GlassBowls());
        long before = made();
        GlassBowls x = new GlassBowls();
        long then = made();
        goThrough(x);
        long after = made();
        D.holds("an object is small: " + (then - before), then - before < MOST_FOR_AN_OBJECT);
        D.holds("its calls make nothing: " + (after - then), after - then < MOST_FOR_ALL_CALLS);
        D.end();
    }

    private static long made() {
        return MEASURE.getThreadAllocatedBytes(Thread.currentThread().getId());
    }

    private static void goThrough(GlassBowls x) {
        for (int i = 0; i < 16; i++) {
            x.bowl(300 * i, 100 + i);
            x.pour(i, 500);
            x.spill(i, 5);
            x.crack(i, 600);
            x.mark(i, 700);
            x.set(3, 1);
            x.note(20 * i, 300 * i);
            x.transpose(0, i, 1);
            x.noteOf(i, 4);
            x.run(40);
            x.worst(i);
            x.rewind();
            x.wouldBe(i);
            x.firstFalse();
            x.leastTolerance();
            x.pitchAt(0, 3600);
            x.nearest(300 * i);
            x.levelFor(i, 300 * i);
            x.bowlOf(i, 6);
            x.count(i);
            x.type('1' + i % 9);
            x.type(':');
            x.type('7');
            x.type(';');
            x.fault(i % 2);
            x.enter();
            x.drop(i);
            x.undo();
            x.remove(9);
        }
        x.clearText();
    }
}
