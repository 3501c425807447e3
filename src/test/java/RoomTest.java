import com.sun.management.ThreadMXBean;
import java.lang.management.ManagementFactory;

/**
 * What runs of the dearest calls make stays far below the room that all calls of one run share. Bytes stand for fields
 * and elements here: none takes less than one.
 */
public final class RoomTest {
    private static final long MOST_BYTES = 7_300_000;
    private static final ThreadMXBean MEMORY = (ThreadMXBean) ManagementFactory.getThreadMXBean();

    public static void main(String[] args) {
        measure(1);
        objects();
        drafts();
        measure(2);
        measure(3);
        measure(4);
        rows();
        Due.end();
    }

    private static long made() {
        return MEMORY.getThreadAllocatedBytes(Thread.currentThread().getId());
    }

    private static void due(String what, long before) {
        long bytes = made() - before;
        System.out.println(what + ": " + bytes + " bytes");
        Due.due(what + " stays in the room", bytes < MOST_BYTES ? 1 : 0, 1);
    }

    private static void objects() {
        long before = made();
        for (int i = 0; i < 512; i++) {
            new MotionFloor().there(0);
        }
        due("512 objects", before);
    }

    private static void drafts() {
        long before = made();
        MotionFloor x = new MotionFloor();
        for (int i = 0; i < 512; i++) {
            x.draft(1 + i % 8);
        }
        due("512 drafts", before);
    }

    /** 56 motions on THE DESK, then the same call until there are 512. */
    private static void measure(int kind) {
        long before = made();
        MotionFloor x = Due.sitting(4);
        int calls = 6;
        for (int p = 0; p < 8; p++) {
            Due.bring(x, 1, 1);
            Due.bring(x, 2, 2);
            Due.bring(x, 3, 3);
            Due.bring(x, 4, 4);
            Due.bring(x, 2, 5);
            Due.bring(x, 5, 6);
            Due.bring(x, 2, 7);
            Due.bring(x, 7);
            Due.carry(x);
            calls += 42;
        }
        Due.due("desk(7, 1)", x.desk(7, 1), 7);
        for (; calls < 512; calls++) {
            if (kind == 1) {
                x.again();
            } else if (kind == 2) {
                x.before(calls - 1, 0, 0);
            } else if (kind == 3) {
                x.image(calls % 2);
            } else {
                x.image(calls % 2);
                x.back(calls % 2);
                x.again();
            }
        }
        due("a full DESK and dear calls " + kind, before);
    }

    private static void rows() {
        long before = made();
        MotionFloor x = new MotionFloor();
        for (int i = 0; i < 256; i++) {
            x.tell(10, 1 + i % 8, 0, 0, 0, 1 + i % 8);
        }
        for (int i = 0; i < 256; i++) {
            Due.due("check()", x.check(), -1);
        }
        due("256 entries that are checked 256 times", before);
    }
}
