import com.sun.management.ThreadMXBean;
import java.lang.management.ManagementFactory;

/** All that an object needs is made with it: no call makes an object or an array, so that runs fit into their room. */
final class RoomTest {
    /** The machine itself may make something as it goes; it does not do so each time. */
    private static final int TRIES = 20;

    public static void main(String[] args) {
        ThreadMXBean thread = (ThreadMXBean) ManagementFactory.getThreadMXBean();
        long least = Long.MAX_VALUE;
        for (int i = 0; i < TRIES; i++) {
            GhostTrain x = new GhostTrain();
            long before = thread.getCurrentThreadAllocatedBytes();
            makeEachCall(x);
            least = Math.min(least, thread.getCurrentThreadAllocatedBytes() - before);
        }
        Due.is("README.md", "bytes that calls made", least, 0);
        Due.end();
    }

    private static void makeEachCall(GhostTrain x) {
        carsAndParts(x);
        textsOnTape(x);
        whatWillBe(x);
        sheetsAndSlots(x);
        rowsAndImages(x);
    }

    private static void carsAndParts(GhostTrain x) {
        x.seed(4);
        x.deal(4);
        x.car(1, 30, 80);
        x.car(4, 60, 10);
        x.lays(3, 2, 5);
        x.lays(2, 0, -4);
        for (int what = 0; what < 12; what++) {
            x.told(0, what);
            x.part(2, what);
            x.ride(what);
            x.count(what);
        }
        x.pace(0, 0);
        x.as(4, 0);
        x.turns(0, 3);
        x.set(0, 1, 7);
        x.gap(11);
        x.lamps();
        x.seconds(20);
    }

    /** The tape is fed in numbers, as a text of Java's would be an object. */
    private static void textsOnTape(GhostTrain x) {
        x.feed(0x70616365, 0x20772F28, 0x722B2138);
        x.feed(0x297C3420, 0, 0);
        x.trim(16);
        Due.is("promise 29", "text()", x.text(), 0);
        x.feed(0x66656520, 0x732A392B, 0x74202020);
        Due.is("promise 29", "text()", x.text(), 1);
        x.feed(0x66696E65, 0x20662A29, 0x20202020);
        Due.is("promise 29", "text() of a FAULT", x.text(), -107);
        x.textTold(0, 1);
        x.why(0);
        x.fee();
        x.fine(0);
    }

    private static void whatWillBe(GhostTrain x) {
        x.behind(50, 0);
        x.stands();
        x.brake(3, 50, 0);
        x.moved(3, 4, 50);
        x.off(50, 1);
        x.kind(0, 50, 1);
        x.kiss(3, 50);
        x.gaps(30);
    }

    private static void sheetsAndSlots(GhostTrain x) {
        x.sheet(0, 0, 24);
        x.sheet(1, 1, 20);
        x.sheet(2, 1, 10);
        x.mark(0, 3, 70000);
        x.mark(1, 3, GhostTrain.NONE);
        x.weighed(1, 0, 0);
        x.pour(0);
        x.reads(1);
        x.copy(1, 0, 2, 5, 5);
        x.lay(0, 1, 4);
        x.lay(1, 2, 2);
        x.lay(2, 3, 99);
        x.ask(0, 0);
        x.item(1, 8);
        x.rest(2, 7);
    }

    private static void rowsAndImages(GhostTrain x) {
        x.keep();
        x.tell(1);
        x.check(30);
        x.back();
    }
}
