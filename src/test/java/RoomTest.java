import com.sun.management.ThreadMXBean;
import java.lang.management.ManagementFactory;

/** All calls of a run live in one room: an object is small, and no call makes anything. */
public final class RoomTest {
    private static final ThreadMXBean THREADS = (ThreadMXBean) ManagementFactory.getThreadMXBean();
    private static final long MOST_BYTES_AN_OBJECT = 20_000;
    /** What the measuring itself may make. */
    private static final long MOST_BYTES_OF_CALLS = 2_000;

    public static void main(String[] args) {
        // Once for nothing: what is loaded at first use is not counted.
        bytesOfObjects(1);
        bytesOfCalls(new NoticeWeek());
        long object = bytesOfObjects(10) / 10;
        long calls = bytesOfCalls(new NoticeWeek());
        System.out.println("RoomTest: an object takes " + object + " bytes, 500 rounds of all calls make " + calls);
        System.exit(object <= MOST_BYTES_AN_OBJECT && calls <= MOST_BYTES_OF_CALLS ? 0 : 1);
    }

    private static long made() {
        return THREADS.getThreadAllocatedBytes(Thread.currentThread().getId());
    }

    private static long bytesOfObjects(int n) {
        long before = made();
        for (int i = 0; i < n; i++) {
            new NoticeWeek().count(0);
        }
        return made() - before;
    }

    private static long bytesOfCalls(NoticeWeek x) {
        String town = "w9;p1,7,5;v0,63,2;s2,61,9;c4,3,3;k0,9,60;p5,5,0;";
        long before = made();
        for (int round = 0; round < 500; round++) {
            Script.read(x, town);
            rows(x);
            acts(x);
            foretold(x);
            asks(x);
        }
        return made() - before;
    }

    private static void rows(NoticeWeek x) {
        x.row(0, 0, 40);
        x.row(1, 2, 40);
        x.set(0, 0, 3);
        x.copy(0, 0, 0, 1, 30);
        x.drop(1);
        x.status();
        x.count(0);
    }

    private static void acts(NoticeWeek x) {
        x.image(0);
        x.days(20);
        x.write(4, 1);
        x.deny(5, 0);
        x.spare(4, 9);
        x.undo();
        x.reader(4, 4);
        x.restore(0);
    }

    private static void foretold(NoticeWeek x) {
        for (int r = 0; r < 6; r++) {
            x.deeds(r, 60);
            x.lines(r, 60);
            x.ends(r);
            x.toWrite(r, 5, 0);
            x.toDeny(r, 1);
            x.temper(r, 0, 0, 16);
            x.told(r, 0, 0, 16, 1);
        }
        x.dead(9);
        x.first(0);
        x.print(0);
        x.odds(2, 3, 0);
    }

    private static void asks(NoticeWeek x) {
        for (int r = 0; r < 6; r++) {
            x.kind(r);
            x.as(r, 5);
            x.ask(r, 0);
            x.ask(r, 1);
            x.trace(0);
        }
    }
}
