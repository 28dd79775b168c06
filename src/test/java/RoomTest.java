import java.lang.management.ManagementFactory;

/** All calls of a run share one room: a new object is small, and no call makes anything. */
public final class RoomTest {
    private static final int MOST_BYTES_OF_ONE = 4096;

    private RoomTest() {
    }

    public static void main(String[] args) {
        com.sun.management.ThreadMXBean threads =
                (com.sun.management.ThreadMXBean) ManagementFactory.getThreadMXBean();
        long self = Thread.currentThread().getId();
        everyCall(new BorderHarp());
        threads.getThreadAllocatedBytes(self);
        long start = threads.getThreadAllocatedBytes(self);
        BorderHarp x = new BorderHarp();
        long made = threads.getThreadAllocatedBytes(self);
        everyCall(x);
        long called = threads.getThreadAllocatedBytes(self);
        Due.due("a new object's bytes are few", made - start <= MOST_BYTES_OF_ONE ? 1 : made - start, 1);
        Due.due("bytes made by calls", called - made, 0);
        Due.end();
    }

    private static void everyCall(BorderHarp x) {
        x.posts(9);
        for (int w = 0; w < 8; w++) {
            x.wire(w, w == 4 ? 3 : 1, w);
            x.pass(w, w, w % 4);
            x.wind(w, w);
        }
        x.frost(2);
        x.guard(3, true);
        x.image(0);
        x.from(0);
        x.type(0x706f737473203933L, 8);
        x.type(0x706f73747320393bL, 8);
        x.read();
        x.clear();
        x.type(0x706f73747320393bL, 8);
        x.read();
        x.from(0);
        x.sounds(0, 1, 0);
        x.away(0, 0);
        x.heard(0, 0);
        x.alarm(0);
        x.which(0, 0, 1, 0, -1);
        x.cover(3);
        x.clashes();
        x.retune();
        x.slip(0);
        x.lot(2, 0, 0);
        x.surest(2, 0);
        x.whence(0, 0, 1);
        x.doubled();
        x.doubt(33, 44);
        x.part(0);
        x.status(9);
        x.count(9);
        x.digest();
        x.undo();
        x.calm();
    }
}
