import java.lang.management.ManagementFactory;

/** All promises: no call throws or fails to end, whatever it is told, and none fills the room that a run has. */
public final class ExtremesTest {
    private static final int[] EDGES = {Integer.MIN_VALUE, Integer.MIN_VALUE + 1, -1000000, -1000, -101, -100, -99, -10, -9,
        -2, -1, 0, 1, 2, 3, 4, 5, 6, 7, 8, 9, 10, 11, 12, 13, 20, 21, 23, 24, 25, 30, 31, 32, 99, 100, 255, 256, 399, 400,
        401, 666, 777, 900, 901, 999, 1000, 1023, 1024, 9999, 10000, Integer.MAX_VALUE - 1, Integer.MAX_VALUE};
    private static final int CALLS = 43;

    public static void main(String[] args) {
        Due.promise(1);
        anyArguments();
        dearestCalls();
        Due.close();
    }

    private static void anyArguments() {
        Due.Numbers numbers = new Due.Numbers(7);
        for (int run = 0; run < 400; run++) {
            WheelStore x = new WheelStore();
            if (run % 4 > 0) {
                furnish(x, numbers);
            }
            for (int turn = 0; turn < 512; turn++) {
                tell(x, numbers.below(CALLS), numbers);
            }
            Due.due("ACTS are no more than 300", x.about(3) + x.about(4) <= 300, true);
        }
    }

    private static int some(Due.Numbers numbers) {
        switch (numbers.below(4)) {
            case 0: return EDGES[numbers.below(EDGES.length)];
            case 1: return numbers.any();
            default: return numbers.from(-1, 12);
        }
    }

    private static void furnish(WheelStore x, Due.Numbers n) {
        StringBuilder text = new StringBuilder();
        for (int i = n.from(1, 5); i > 0; i--) {
            text.append("ring heavy ").append(n.from(0, 20)).append(" stiff ").append(12).append(" holds 9999 fit ")
                .append(n.from(0, 99)).append(';');
        }
        Due.stack(x, text.toString());
        for (int i = n.from(1, 3); i > 0; i--) {
            x.wheel(n.from(0, 6), n.from(1, 6));
        }
        x.begin(n.from(0, 8), n.from(0, 12), 0, 0, 0);
        x.store(n.from(0, 30), n.from(1, 9), n.from(0, 100));
    }

    private static long tell(WheelStore x, int which, Due.Numbers numbers) {
        int a = some(numbers);
        int b = some(numbers);
        int c = some(numbers);
        int d = some(numbers);
        int e = some(numbers);
        int f = some(numbers);
        switch (which) {
            case 0: return x.feed(a, b, c, d, e);
            case 1: return x.end(a);
            case 2: return x.stack();
            case 3: return x.fault(a);
            case 4: return x.press(a, b, c);
            case 5: return x.gap(a, b, c);
            case 6: return x.stretch(a, b, c);
            case 7: return x.opens(a);
            case 8: return x.most();
            case 9: return x.best(a, b, c);
            case 10: return x.chosen(a, b, c, d);
            case 11: return x.wheel(a, b);
            case 12: return x.worst(a, b, c, d, e);
            case 13: return x.call(a, b, c, d, e);
            case 14: return x.give(a, b, c, d, e, f);
            case 15: return x.begin(a, b, c, d, e) ? 1 : 0;
            case 16: return x.move(a, b) ? 1 : 0;
            case 17: return x.play(a);
            case 18: return x.blame(a, b);
            case 19: return x.price(a, b, c) ? 1 : 0;
            case 20: return x.store(a, b, c) ? 1 : 0;
            case 21: return x.misses(a) ? 1 : 0;
            default: return tellMore(x, which, a, b, c, d);
        }
    }

    private static long tellMore(WheelStore x, int which, int a, int b, int c, int d) {
        switch (which) {
            case 22: return x.value(a, b);
            case 23: return x.trade(a, b, c);
            case 24: return x.worth(a, b);
            case 25: return x.plan(a, b) ? 1 : 0;
            case 26: return x.check(a, b);
            case 27: return x.hole(a, b, c);
            case 28: return x.shake(a, b) ? 1 : 0;
            case 29: return x.off();
            case 30: return x.weights(a);
            case 31: return x.drag(a, b) ? 1 : 0;
            case 32: return x.alone(a, b, c);
            case 33: return x.cracks(a, b, c, d) ? 1 : 0;
            case 34: return x.costs(a, b, c) ? 1 : 0;
            case 35: return x.cost(a, b, c);
            case 36: return x.looks(a);
            case 37: return x.makes(a, b) ? 1 : 0;
            case 38: return x.reads(a, (b & 1) == 0);
            case 39: return x.agree(a) + x.told(a, b) + x.next(a) + x.fewest();
            case 40: return x.undo() ? 1 : 0;
            case 41: return x.redo() ? 1 : 0;
            default: return x.digest() + x.about(a);
        }
    }

    /** A run's room holds some 7.3 million elements; a whole run of the dearest calls must stay far below. */
    private static void dearestCalls() {
        com.sun.management.ThreadMXBean threads = (com.sun.management.ThreadMXBean) ManagementFactory.getThreadMXBean();
        long thread = Thread.currentThread().getId();
        WheelStore warm = new WheelStore();
        dear(warm, 1);
        long before = threads.getThreadAllocatedBytes(thread);
        WheelStore x = new WheelStore();
        dear(x, 20);
        long bytes = threads.getThreadAllocatedBytes(thread) - before;
        System.out.println("a run of dear calls takes " + bytes + " bytes");
        Due.due("bytes of a run are few", bytes < 400000, true);
    }

    private static void dear(WheelStore x, int turns) {
        for (int n = 0; n < turns; n++) {
            int[] five = {1919512167, 543712609, 1987649586, 544437353, 1717968948};
            x.feed(five[0], five[1], five[2], five[3], five[4]);
            x.stack();
            x.wheel(6, 6);
            x.worst(8, 12, 3, n % 3, 0);
            x.give(8, 12, 3, 0, 0, 6);
            x.hole(n, -n, 2);
            x.off();
            x.cracks(3, 3, 9, 4);
            x.costs(1, 2, n);
            x.looks(10);
            x.cost(10, 1023, 0);
            x.store(30, 9, 1);
            x.value(0, 0);
            x.check(0, 0);
            x.best(1, 2, n);
            x.opens(0);
            x.undo();
            x.redo();
            x.digest();
            x.next(0);
        }
    }
}
