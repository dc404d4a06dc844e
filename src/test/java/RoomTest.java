import java.lang.management.ManagementFactory;

/** The room of a run: beyond the constructor, a call makes nothing that grows with what it looks at. */
final class RoomTest {
    /** With the calls that fill the ditch these are not more than 512. */
    private static final int ROUNDS = 59;
    private static final int CALLS_OF_A_ROUND = 8;
    private static final int CALLS_THAT_FILL = 37;
    private static final long MOST_BYTES_OF_AN_OBJECT = 60_000;
    private static final long MOST_BYTES_OF_ALL_CALLS = 10_000;

    private RoomTest() {
    }

    public static void main(String[] args) {
        bytesOfRun();
        bytesOfRun();
        long before = bytes();
        AcequiaGates ditch = fullDitch();
        long made = bytes() - before;
        Script.check("an object takes " + made + " bytes", made < MOST_BYTES_OF_AN_OBJECT);
        Script.check("and is used", ditch.isWell());
        long run = bytesOfRun();
        int calls = ROUNDS * CALLS_OF_A_ROUND;
        Script.check(calls + " of the dearest calls make " + run + " bytes", run < MOST_BYTES_OF_ALL_CALLS);
        Script.check("no more calls than are promised", CALLS_THAT_FILL + calls <= Script.MOST_CALLS);
        Script.close("RoomTest");
    }

    private static long bytes() {
        return ((com.sun.management.ThreadMXBean) ManagementFactory.getThreadMXBean()).getCurrentThreadAllocatedBytes();
    }

    private static AcequiaGates fullDitch() {
        AcequiaGates ditch = new AcequiaGates();
        ditch.inflow(200);
        for (int i = 0; i < 6; i++) {
            ditch.gate(30);
            ditch.open(i, 0, 160, true);
        }
        for (int i = 0; i < 12; i++) {
            ditch.garden(i / 2, 1 + i, 1 + i % 9, 50);
            ditch.thief(i, i % 3 == 0);
        }
        return ditch;
    }

    private static long bytesOfRun() {
        AcequiaGates ditch = fullDitch();
        long before = bytes();
        for (int i = 0; i < ROUNDS; i++) {
            ditch.pass(10);
            ditch.append('h');
            ditch.append('1');
            ditch.read();
            ditch.ahead(5, 200);
            ditch.open(3, 0, 167, false);
            ditch.bestHour(3);
            ditch.thirsty(2, 0);
        }
        return bytes() - before;
    }
}
