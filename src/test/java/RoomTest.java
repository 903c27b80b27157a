import java.lang.management.ManagementFactory;

/** All calls of a run live in one room: a new object is small, and its calls make nothing. */
final class RoomTest {
    private static final Due due = new Due("RoomTest");
    // What the machine itself may take meanwhile; one row of letters a call would be more.
    private static final long LEEWAY = 2048;
    private static final String FULL = "abababababab|abababababab|abababababab|abababababab|abababababab";
    private static final com.sun.management.ThreadMXBean machine =
        (com.sun.management.ThreadMXBean) ManagementFactory.getThreadMXBean();

    public static void main(String[] arguments) {
        Due.shelf("ab|c").bestCut(0, 0);
        long before = bytes();
        SeamReadings x = new SeamReadings();
        long size = bytes() - before;
        due.is("a new object has at most 32768 bytes", size <= 32768 ? 1 : 0, 1);
        for (int i = 0; i < 5; i++) {
            Due.putAll(x, FULL);
            x.sew();
        }
        Due.putAll(x, "ab");
        for (int kind = 0; kind < 23; kind++) {
            SeamReadings y = Due.shelf(FULL);
            Due.putAll(y, "a|b;c");
            y.sew();
            before = bytes();
            for (int i = 0; i < 16; i++) {
                call(kind < 15 ? x : y, kind, i);
            }
            long made = bytes() - before;
            due.is("calls of kind " + kind + " made nothing", made <= LEEWAY ? 1 : 0, 1);
        }
        due.end();
    }

    private static long bytes() {
        return machine.getThreadAllocatedBytes(Thread.currentThread().getId());
    }

    private static int call(SeamReadings x, int kind, int i) {
        switch (kind) {
            case 0: return x.scroll(i % 5, i % 7);
            case 1: return x.patch(i % 5, 0);
            case 2: return x.letter(i % 5, 0, 0);
            case 3: return x.reading(i % 5, i, 7);
            case 4: return x.find(i % 5, i % 4);
            case 5: return x.shared(i % 5, 0);
            case 6: return x.compare(i % 5, 0);
            case 7: return x.count(i % 7);
            case 8: return x.ifCut(i % 5, 1, 2);
            case 9: return x.bestCut(i % 5, 2);
            case 10: return x.turn(i % 5, 0);
            case 11: return x.exchange(i % 5, 0);
            case 12: return x.save(i % 2);
            case 13: return x.restore(i % 2);
            case 14: return x.undo();
            case 15: return x.put('a');
            case 16: return x.fault();
            case 17: return x.wipe();
            case 18: return x.sew();
            case 19: return x.join(2, 1);
            case 20: return x.cut(0, 0, 1);
            case 21: return x.undoSeam(1, 0);
            default: return x.burn(0);
        }
    }
}
