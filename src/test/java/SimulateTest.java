import java.math.BigInteger;

/** Promise 25: simulations. */
final class SimulateTest {
    private static final BigInteger FACTOR = new BigInteger("6364136223846793005");
    private static final BigInteger ADDED = new BigInteger("1442695040888963407");
    private static final BigInteger ALL = BigInteger.ONE.shiftLeft(64);

    private SimulateTest() {
    }

    @Says({"Simulates m turns on a copy of the state.", "on a copy of the state"})
    static void promise25_onACopy(Checks c) {
        for (long seed : new long[] {0, 1, -1, 4242, Long.MAX_VALUE, Long.MIN_VALUE}) {
            c.unchanged(Make::livedLong, "simulate(" + seed + ", 60)", x -> x.simulate(seed, 60));
            c.unchanged(OddRulers::new, "simulate(" + seed + ", 60) first", x -> x.simulate(seed, 60));
        }
        OddRulers x = Make.two();
        c.due("the same seed, the same answer", x.simulate(7, 60), x.simulate(7, 60));
    }

    @Says({"A long x starts as the seed.", "Each turn first replaces x by x * 6364136223846793005L + 1442695040888963407L "
        + "(with long overflow), and r = (int) (x >>> 33) is computed.", "`seed`: any long", "`m`: number of turns, 1 to 60",
        "Returns 10000 * (the marks of all rulers at the end) + 10 * (the lengths of the range that can be laid at the end) "
            + "+ (the rulers at the end)."})
    static void promise25_asByHand(Checks c) {
        long[] seeds = {0, 1, -1, 7, 123456789L, Long.MAX_VALUE, Long.MIN_VALUE, 4242, 1L << 33, -(1L << 40)};
        for (long seed : seeds) {
            OddRulers x = Make.two();
            OddRulers byHand = Make.two();
            BigInteger number = BigInteger.valueOf(seed).mod(ALL);
            for (int m = 1; m <= 60; m++) {
                number = number.multiply(FACTOR).add(ADDED).mod(ALL);
                turn(byHand, number.shiftRight(33).intValueExact());
                int want = 10000 * byHand.about(1) + 10 * byHand.about(5) + byHand.about(0);
                c.due("simulate(" + seed + ", " + m + ")", x.simulate(seed, m), want);
            }
        }
    }

    private static void turn(OddRulers x, int r) {
        int q = (r - r % 8) / 8;
        switch (r % 8) {
            case 0:
                Checks.answer(x, y -> y.ruler(2 + q % 39));
                break;
            case 1: case 2: case 3: case 4:
                Checks.answer(x, y -> y.mark(q % 4, (q / 4) % 41, (q / 256) % 4 != 0));
                break;
            case 5:
                Checks.answer(x, y -> y.cut(q % 4, 2 + (q / 4) % 39));
                break;
            case 6:
                Checks.answer(x, y -> y.turn(q % 4));
                break;
            default:
                boolean even = (q / 8) % 2 == 0;
                Checks.answer(x, y -> even ? y.set(0, 1 + q % 6) : y.set(1, 10 + (q / 16) % 141));
                break;
        }
    }

    // ---- each kind of turn: the seed that makes r the number that is wanted in the first turn

    @Says({"q is r / 8.", "By r % 8: 0: ruler(2 + q % 39).", "All divisions are rounded down."})
    static void promise25_ruler(Checks c) {
        for (int q = 0; q < 80; q++) {
            due(c, 8 * q, 100000 - 10000 + 10 * lengthsWith(2 + q % 39) + 3);
        }
    }

    private static int lengthsWith(int length) {
        OddRulers x = Make.two();
        x.ruler(length);
        return x.about(5);
    }

    @Says("1 to 4: mark(q % 4, q / 4 % 41, q / 256 % 4 is not 0).")
    static void promise25_mark(Checks c) {
        for (int kind = 1; kind <= 4; kind++) {
            for (int q = 0; q < 1024; q++) {
                OddRulers x = Make.two();
                int r = q % 4;
                int p = q / 4 % 41;
                boolean on = q >= 256;
                Checks.answer(x, y -> y.mark(r, p, on));
                due(c, 8 * q + kind, 10000 * x.about(1) + 10 * x.about(5) + x.about(0));
            }
            // q is 1024: taken away at 256 % 41 = 10, where there is no mark.
            due(c, 8 * 1024 + kind, 70222);
        }
    }

    @Says("5: cut(q % 4, 2 + q / 4 % 39).")
    static void promise25_cut(Checks c) {
        for (int q = 0; q < 4 * 40; q++) {
            OddRulers x = Make.two();
            int r = q % 4;
            int n = 2 + q / 4 % 39;
            Checks.answer(x, y -> y.cut(r, n));
            due(c, 8 * q + 5, 10000 * x.about(1) + 10 * x.about(5) + x.about(0));
        }
    }

    @Says("6: turn(q % 4).")
    static void promise25_turn(Checks c) {
        // Turned and then cut to 5, the ruler 12 with marks at 4 and 9 keeps 3; not turned, it keeps 4.
        OddRulers x = Make.two();
        for (int q = 0; q < 8; q++) {
            due(c, 8 * q + 6, 70222);
        }
        int turned = 0;
        for (long seed = 1; seed <= 5000 && turned < 5; seed++) {
            if (kind(seed, 1) == 6 && kind(seed, 2) == 5) {
                OddRulers byHand = Make.two();
                turn(byHand, number(seed, 1));
                turn(byHand, number(seed, 2));
                int want = 10000 * byHand.about(1) + 10 * byHand.about(5) + byHand.about(0);
                turned += want != 70222 ? 1 : 0;
                c.due("simulate(" + seed + ", 2)", x.simulate(seed, 2), want);
            }
        }
        c.due("turned and cut", turned, 5);
    }

    private static int kind(long seed, int turn) {
        return number(seed, turn) % 8;
    }

    private static int number(long seed, int turn) {
        BigInteger number = BigInteger.valueOf(seed).mod(ALL);
        for (int i = 0; i < turn; i++) {
            number = number.multiply(FACTOR).add(ADDED).mod(ALL);
        }
        return number.shiftRight(33).intValueExact();
    }

    @Says("7: set(0, 1 + q % 6), if q / 8 % 2 is 0, otherwise set(1, 10 + q / 16 % 141).")
    static void promise25_set(Checks c) {
        for (int q = 0; q < 16 * 142; q++) {
            OddRulers x = Make.two();
            if (q / 8 % 2 == 0) {
                x.set(0, 1 + q % 6);
            } else {
                x.set(1, 10 + q / 16 % 141);
            }
            due(c, 8 * q + 7, 70002 + 10 * x.about(5));
        }
    }

    @Says("What would throw an exception is left out.")
    static void promise25_leftOut(Checks c) {
        for (int kind = 1; kind <= 4; kind++) {
            due(c, kind, 70222);
            // q is 4 * 12, an end of ruler 0; q is 2 and 3, rulers that are not there; q is 256 + 4 * 24 + 1, a place.
            due(c, 8 * 48 + kind, 70222);
            due(c, 16 + kind, 70222);
            due(c, 24 + kind, 70222);
            due(c, 8 * 353 + kind, 80002 + 10 * withMark(1, 6));
            due(c, 8 * 361 + kind, 70222);
        }
        due(c, 8 * 44 + 5, 70222);
        due(c, 8 * 2 + 5, 70222);
        due(c, 8 * 3 + 6, 70222);
        OddRulers four = Make.four();
        int before = 10000 * four.about(1) + 10 * four.about(5) + 4;
        c.due("a fifth ruler", four.simulate(seedFor(0), 1), before);
        OddRulers none = new OddRulers();
        c.due("no rulers", none.simulate(seedFor(6), 1), 0);
        c.due("the first one", none.simulate(seedFor(0), 1), 20000 + 10 * Make.rulers(Make.row(2)).about(5) + 1);
    }

    private static int withMark(int r, int p) {
        OddRulers x = Make.two();
        x.mark(r, p, true);
        return x.about(5);
    }

    private static void due(Checks c, int r, int want) {
        c.due("simulate() with r = " + r, Make.two().simulate(seedFor(r), 1), want);
    }

    /** By the inverse of the factor; the low bits of x are 0 then. */
    private static long seedFor(long r) {
        BigInteger x = BigInteger.valueOf(r).shiftLeft(33);
        return x.subtract(ADDED).multiply(FACTOR.modInverse(ALL)).mod(ALL).longValue();
    }

    @Says("Throws `IllegalArgumentException` if m is out of range")
    static void promise25_wrong(Checks c) {
        for (int m : new int[] {0, -1, 61, 62, -60, Integer.MIN_VALUE, Integer.MAX_VALUE}) {
            for (long seed : new long[] {0, 1, -1, Long.MIN_VALUE, Long.MAX_VALUE}) {
                c.refused(Make::livedLong, "simulate(" + seed + ", " + m + ")", Checks.ARGUMENT, x -> x.simulate(seed, m));
            }
        }
    }
}
