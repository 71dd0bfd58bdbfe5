import java.lang.management.ManagementFactory;

/** What calls make: they use the rows again that the constructor made. */
final class RoomTest {
    private RoomTest() {
    }

    static void room_noCallMakesAnything(Checks c) {
        com.sun.management.ThreadMXBean beans =
                (com.sun.management.ThreadMXBean) ManagementFactory.getThreadMXBean();
        OddRulers[] all = new OddRulers[40];
        for (int i = 0; i < all.length; i++) {
            all[i] = Make.rulers(Make.row(40, 3, 17, 29), Make.row(31, 7), Make.row(9), Make.row(5, 1));
            Make.write(all[i], "Kr40m003m017");
        }
        long sum = calls(all[0]);
        long me = Thread.currentThread().getId();
        long before = beans.getThreadAllocatedBytes(me);
        for (int i = 1; i < all.length; i++) {
            sum += calls(all[i]);
        }
        long made = beans.getThreadAllocatedBytes(me) - before;
        c.due("bytes of " + sum + ": " + made + ", few", made < 100000, true);
    }

    /** Fewer calls than the 512 that an object is used for. */
    private static long calls(OddRulers x) {
        long sum = 0;
        for (int i = 0; i < 20; i++) {
            sum += x.about(i % 9) + x.errorPosition() + x.rulerOf(0, i % 6) + x.span(0, 0, i % 4) + x.layings();
            sum += x.mark(0, 1 + i % 39, i % 2 == 0) + x.turn(0) + x.set(0, 1 + i % 6) + x.undo();
            sum += x.fewest(i % 201, i % 2) + x.laying(i % 201, 1, 3) + x.why(i % 201) + x.bestMark(0, 0);
            sum += x.needless(0) + x.twin(0, 1, true) + x.runScript(3, 500002_700000_900099L) + x.simulate(i, 60);
            sum += x.save(i % 2) + (i % 10 == 9 ? x.restore(i % 2) : 0);
        }
        return sum;
    }
}
