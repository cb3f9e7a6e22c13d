import com.sun.management.ThreadMXBean;
import java.lang.management.ManagementFactory;

/** All calls of a run live in one room: the dearest calls make nothing, whatever they search. */
public final class RoomTest {
    private static final String TWELVE = "dish 00000;dish 10001;dish 20002;dish 30003;dish 40004;dish 50005;dish 60006;dish 70007;dish 80008;dish 90009;dish 00009;dish 90000";

    private static BiteYears made;

    public static void main(String[] args) {
        calls();
        ThreadMXBean threads = (ThreadMXBean) ManagementFactory.getThreadMXBean();
        long id = Thread.currentThread().getId();
        long before = threads.getThreadAllocatedBytes(id);
        made = new BiteYears();
        long object = threads.getThreadAllocatedBytes(id) - before;
        Check.due("an object is small: " + object, object < 64_000, true);
        BiteYears x = ready();
        before = threads.getThreadAllocatedBytes(id);
        dear(x);
        long dear = threads.getThreadAllocatedBytes(id) - before;
        Check.due("dear calls make little: " + dear, dear < 4_000, true);
        Check.finish();
    }

    private static void calls() {
        for (int i = 0; i < 3; i++) {
            dear(ready());
        }
    }

    private static BiteYears ready() {
        BiteYears x = Check.with(TWELVE, "grief 3 if new and not (sorrow > 40 or spoons > 2);joy 2 if dish > 3;pay 5 if day + 1 > dish");
        Check.due("made before", made == x, false);
        return x;
    }

    private static void dear(BiteYears x) {
        for (int i = 0; i < 6; i++) {
            x.order(63 << i, -1);
            x.feed(0x05050505, 0x05050505, 0x05050505, 0x05050505, 0x05050505);
            x.feed(0x05050505, 0x05050505, 0x05050505, 0x05050505, 0x05050505);
            x.end(25);
            x.jars(-1);
            x.evenings(60);
            x.trial(60, true);
            x.span(60, true);
            x.breaks(i);
            x.sad();
            x.image();
            x.undo();
            x.back();
            x.fewest(1, 0);
        }
    }
}
