import java.lang.management.ManagementFactory;

/** What 512 calls make: they share one room of 600,000 objects and 7.3 million fields and elements. */
public final class RoomTest {
    /** Far below what the room's objects alone would take (16 bytes each). */
    private static final long MOST_BYTES = 2_000_000;
    private static final int CALLS = 512;

    private RoomTest() {
    }

    public static void main(String[] args) {
        for (int kind = 0; kind < 6; kind++) {
            measure(kind);
            measure(kind);
        }
        long before = bytes();
        for (int i = 0; i < CALLS; i++) {
            new GlassRacks().count(0);
        }
        Due.due("512 new objects, in bytes", bytes() - before <= 8_000_000 ? 1 : 0, 1);
        extremes();
        Due.finish();
    }

    private static long bytes() {
        com.sun.management.ThreadMXBean bean = (com.sun.management.ThreadMXBean) ManagementFactory.getThreadMXBean();
        return bean.getThreadAllocatedBytes(Thread.currentThread().getId());
    }

    private static void measure(int kind) {
        GlassRacks x = fullHouse();
        long before = bytes();
        for (int call = 0; call < CALLS; call++) {
            callOnce(x, kind, call);
        }
        long made = bytes() - before;
        Due.due("512 calls of kind " + kind + " made " + made + " bytes, too much", made <= MOST_BYTES ? 1 : 0, 1);
    }

    private static void callOnce(GlassRacks x, int kind, int call) {
        switch (kind) {
            case 0: x.wouldPlan(call % 3, call % 4); break;
            case 1:
                if (call % 2 == 0) {
                    x.plan(call % 3);
                } else {
                    x.undo();
                }
                break;
            case 2:
                if (call % 2 == 0) {
                    x.perform();
                } else {
                    x.undo();
                }
                break;
            case 3:
                if (call % 2 == 0) {
                    x.restore();
                } else {
                    x.keep();
                }
                break;
            case 4: x.choice(call % 12, call % 3); break;
            default: x.buy(call % 4, 0, 5, 5); x.scrap(x.count(12) - 1); break;
        }
    }

    /** 31 sheets of 99 times 99, 12 small orders and a text of twenty plans. */
    private static GlassRacks fullHouse() {
        GlassRacks x = new GlassRacks();
        x.set(1, 1);
        for (int i = 0; i < 23; i++) {
            x.buy(i % 4, 0, 99, 99);
        }
        for (int i = 0; i < 12; i++) {
            x.order(0, 2, 2 + i, i);
        }
        Due.typeAll(x, "p0;p1;p2;p0;p1;p2;p0;p1;p2;p0;p1;p2;p0;p1;p2;p0;p1;p2;p0;p1");
        return x;
    }

    /** Each method with the strangest arguments, on an empty object and on a full one: none may throw. */
    private static void extremes() {
        int[] numbers = {Integer.MIN_VALUE, Integer.MIN_VALUE + 1, -101, -1, 0, 1, 3, 8, 12, 32, 60, 99, 200, 999,
            Integer.MAX_VALUE - 1, Integer.MAX_VALUE};
        for (GlassRacks x : new GlassRacks[] {new GlassRacks(), fullHouse()}) {
            for (int a : numbers) {
                x.scrap(a);
                x.cancel(a);
                x.plan(a);
                x.pass(a);
                x.type((char) a);
                x.next(a);
                x.count(a);
                for (int b : numbers) {
                    x.set(a, b);
                    x.move(a, b);
                    x.cut(a, b);
                    x.sheet(a, b);
                    x.at(a, b);
                    x.ordered(a, b);
                    x.choice(a, b);
                    x.wouldPlan(a, b);
                    for (int c : numbers) {
                        x.would(a, b, c);
                        x.buy(a, 0, b, c);
                        x.order(a, b, c, 0);
                        x.buy(0, a, b, c);
                        x.order(0, a, b, c);
                    }
                }
            }
            x.perform();
            Due.due("all area is somewhere", x.count(2) + x.count(4) + x.count(5) + x.count(6) + x.count(7), x.count(3));
        }
    }
}
