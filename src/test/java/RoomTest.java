import java.lang.management.ManagementFactory;

/**
 * All calls of a run live in one room: a call makes no object. The fullest lines, with isles as deep as
 * can be, and arguments of every size go through all calls; none may throw.
 *
 * The objects are made ahead of the measuring, one for each line and argument: what an object answers
 * after its 512th call is free.
 */
public final class RoomTest {
    private static final int[] ARGUMENTS = {
        Integer.MIN_VALUE, -61, -2, -1, 0, 1, 2, 3, 5, 7, 8, 31, 59, 60, 61, 62, 97, 255, 65536, Integer.MAX_VALUE};
    private static final int[] LINES = {
        0, 0x5B5B5B5B, 0x7B5B7B5B, 0x615E625E, 0x41273127, 0x27275E5E, 0x5D5D2020, 0x412B312B};
    private static final int LEAVE_FOR_MEASURING = 4096;

    private static long sum = 0;

    public static void main(String[] args) {
        com.sun.management.ThreadMXBean threads =
            (com.sun.management.ThreadMXBean) ManagementFactory.getThreadMXBean();
        callAll(newBenches());
        CaretBench[] benches = newBenches();
        long before = threads.getCurrentThreadAllocatedBytes();
        callAll(benches);
        long made = threads.getCurrentThreadAllocatedBytes() - before;
        System.out.println("bytes made by calls: " + made + " (sum of answers " + sum + ")");
        if (made > LEAVE_FOR_MEASURING) {
            System.out.println("calls make objects");
            System.exit(1);
        }
    }

    private static CaretBench[] newBenches() {
        CaretBench[] benches = new CaretBench[2 * LINES.length * ARGUMENTS.length];
        for (int i = 0; i < benches.length; i++) {
            benches[i] = new CaretBench();
        }
        return benches;
    }

    private static void callAll(CaretBench[] benches) {
        int next = 0;
        for (int way = 0; way < 2; way++) {
            for (int packed : LINES) {
                for (int argument : ARGUMENTS) {
                    CaretBench bench = benches[next];
                    next++;
                    sum += bench.way(way);
                    fill(bench, packed);
                    ask(bench, argument);
                }
            }
        }
    }

    private static void fill(CaretBench bench, int packed) {
        for (int i = 0; i < 3; i++) {
            sum += bench.put(packed, packed, packed, packed);
        }
        sum += bench.put(packed, packed, packed, 0);
    }

    private static void ask(CaretBench bench, int a) {
        sum += bench.count(a) + bench.sign(a) + bench.level(a) + bench.seen(a) + bench.caret(a);
        sum += bench.pick(a) + bench.way(a) + bench.put(a, a, a, a);
        for (int b : ARGUMENTS) {
            sum += bench.cluster(a, b) + bench.piece(a, b) + bench.select(a, b);
            sum += bench.go(a, b) ? 1 : 0;
            sum += bench.cut(a, b) > 0 ? bench.undo() : 0;
        }
        sum += bench.on(a > 0) ? 1 : 0;
        sum += bench.step(a > 0) ? 1 : 0;
        sum += bench.word(a > 0) ? 1 : 0;
        sum += bench.back() + bench.undo() + bench.ahead() + bench.undo();
        sum += bench.type(a) ? bench.undo() : 0;
        sum += bench.clear() + bench.undo();
    }
}
