import com.sun.management.ThreadMXBean;
import java.lang.management.ManagementFactory;
import java.lang.reflect.Constructor;
import java.lang.reflect.Method;

/**
 * What calls make is never given back to the room that all calls of a run live in, some 7.3 million
 * fields and elements. It is counted in bytes here, eight for each of these, which is near enough.
 */
public final class RoomTest {
    private static final Check CHECK = new Check("Room");
    private static final ThreadMXBean THREADS = (ThreadMXBean) ManagementFactory.getThreadMXBean();
    private static final long ROOM = 7_300_000 * 8L;

    private RoomTest() {
    }

    public static void main(String[] args) throws ReflectiveOperationException {
        newObject();
        sameCallsAgain();
        growingRuns();
        allThatCanBeMade();
        CHECK.finish();
    }

    private static long made() {
        return THREADS.getThreadAllocatedBytes(Thread.currentThread().getId());
    }

    private static void atMost(String what, long got, long limit) {
        CHECK.due(what + ": " + got + " bytes are at most " + limit, got <= limit, true);
    }

    private static void newObject() {
        new OctagonDesk();
        long before = made();
        OctagonDesk x = new OctagonDesk();
        atMost("a new object", made() - before, ROOM / 1000);
        before = made();
        for (int i = 0; i < 20; i++) {
            x.act(i % 6, i % 3, i % 2, 2, 7);
            x.step(i, i % 3, i % 2, 2, 7);
            x.run(i % 6);
            x.take(i % 6, i % 8);
            x.meet(i % 6, 1, 2);
            x.join(i % 6, 1, 2);
            x.widen(i % 6, 1, 2);
        }
        atMost("calls with small numbers", made() - before, 1000);
    }

    private static OctagonDesk afterRuns(int runs) {
        OctagonDesk x = new OctagonDesk();
        GrowingProgram program = GrowingProgram.told();
        program.tell(x);
        for (int i = 0; i < runs; i++) {
            x.run(0);
            x.take(0, program.point);
        }
        return x;
    }

    /** Numbers that no cell names any more leave their room to those that come. */
    private static void sameCallsAgain() {
        OctagonDesk x = afterRuns(20);
        sameCalls(x);
        sameCalls(x);
        long before = made();
        for (int i = 0; i < 10; i++) {
            sameCalls(x);
        }
        atMost("the same calls again with huge numbers", made() - before, 1000);
    }

    private static void sameCalls(OctagonDesk x) {
        for (int slot = 1; slot < 6; slot++) {
            x.copy(slot, 0);
            x.act(slot, 1, slot, 3, 5);
            x.act(slot, 0, 2 * slot, 0, 9);
            x.act(slot, 1, 1, 2, slot);
        }
        x.meet(1, 2, 3);
        x.meet(2, 2, 1);
        x.join(3, 4, 5);
        x.widen(4, 3, 5);
        x.first(5, 5);
        x.places(5);
        x.most(5, 2, 2);
        x.inside(4, 3);
        x.act(5, 0, 3, 3, -9);
        x.act(5, 0, 2, 2, 8);
        x.forget(4, 1);
        x.run(0);
        x.run(1);
        x.take(5, 6);
        x.clear(5);
    }

    private static void growingRuns() {
        long before = made();
        afterRuns(245);
        atMost("512 calls whose numbers grow all the time", made() - before, ROOM / 20);
    }

    /** As many numbers as there can be, as long as they can be: numbers run out, or else blocks. */
    private static void allThatCanBeMade() throws ReflectiveOperationException {
        Class<?> type = Class.forName("OctagonDesk$Numbers");
        Constructor<?> constructor = type.getDeclaredConstructor(int.class);
        constructor.setAccessible(true);
        Method newGiant = type.getDeclaredMethod("newGiant", int.class);
        newGiant.setAccessible(true);
        for (int blocks : new int[] {1, 60, 99, 130, 260}) {
            long before = made();
            Object numbers = constructor.newInstance(23 * 78 + 14);
            int count = 0;
            for (int size = 1; size <= blocks; size += size) {
                Object giant = newGiant.invoke(numbers, size);
                CHECK.due("a number of " + size + " blocks is made", giant != null, true);
            }
            while (newGiant.invoke(numbers, blocks) != null) {
                count++;
            }
            CHECK.due("there are many of " + blocks + " blocks", count * (long) blocks >= Math.min(1700L * blocks, 170_000), true);
            atMost(count + " numbers of " + blocks + " blocks", made() - before, ROOM);
            // One that does not find all its blocks must not keep those that it has found.
            CHECK.due("a short number behind them", newGiant.invoke(numbers, 1) != null, blocks > 99);
        }
    }
}
