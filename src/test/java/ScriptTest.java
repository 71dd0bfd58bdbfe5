/** Promises 24 and 25: scripts and simulations. */
final class ScriptTest {
    private ScriptTest() {
    }

    private static OddRulers two() {
        return Make.rulers(Make.row(12, 4, 9), Make.row(7, 2));
    }

    static void promise24_actions(Checks c) {
        good(c, 100002, 100040);
        bad(c, 100001, 100041, 110010, 101010, 100110, 100000);
        good(c, 200501, 200500, 210200, 201201, 200001, 210701);
        bad(c, 201301, 220001, 200000, 201200, 200502, 200511, 290001, 204101, 210000);
        good(c, 300012, 300002, 310007);
        bad(c, 300013, 300001, 320005, 301005, 300105, 310008);
        good(c, 400000, 410000);
        bad(c, 420000, 401000, 400100, 400010, 400001);
        good(c, 500001, 500006, 510010, 510150);
        bad(c, 500000, 500007, 510009, 510151, 520002, 501001, 511010, 590040);
        bad(c, 0, 1, 12345, 99999);
    }

    static void promise24_questions(Checks c) {
        good(c, 600000, 600012, 600404, 600405, 600009, 600031);
        bad(c, 600011, 600403, 601999, 602009, 602010, 602011, 602019, 609999, 610000, 600400);
        good(c, 700000, 700022, 700021);
        bad(c, 700023, 701000, 710000, 700999);
        good(c, 800001, 800100, 800401, 801201, 810201, 810100);
        bad(c, 800000, 800400, 801301, 801300, 820001, 820000, 800102, 800402, 800411, 800011, 804100);
        good(c, 900002, 900003, 900099);
        bad(c, 900001, 900000, 900102, 901002, 910002);
        OddRulers seven = Make.rulers(Make.row(40));
        c.due("200 in 5", seven.runScript(1, 602005), OddRulers.NONE);
        c.due("200 in 4", seven.runScript(1, 602004), 0);
        c.due("what cannot be laid", seven.runScript(1, 600019), 0);
        c.due("201", seven.runScript(1, 602015), 0);
    }

    private static void good(Checks c, int... groups) {
        for (int group : groups) {
            c.due("runScript(1, " + group + ")", two().runScript(1, group), OddRulers.NONE);
        }
    }

    private static void bad(Checks c, int... groups) {
        for (int group : groups) {
            c.due("runScript(1, " + group + ")", two().runScript(1, group), 0);
        }
    }

    static void promise24_severalCommands(Checks c) {
        OddRulers x = two();
        String before = Picture.of(x);
        c.due("one behind the other", x.runScript(3, 100020_200601_800601L), OddRulers.NONE);
        c.due("a new ruler is marked", x.runScript(3, 100020_220601_820601L), OddRulers.NONE);
        c.due("fails first", x.runScript(3, 100001_220601_820601L), 0);
        c.due("fails second", x.runScript(3, 100020_230601_820601L), 1);
        c.due("fails third", x.runScript(3, 100020_220601_820600L), 2);
        c.due("two of two", x.runScript(2, 400000_800301L), OddRulers.NONE);
        c.due("turned, not there", x.runScript(2, 400000_800401L), 1);
        c.due("a third and a fourth, no fifth", x.runScript(3, 100020_100020_100020L), 2);
        c.due("cut, a place gone", x.runScript(2, 300008_800900L), 1);
        c.due("a greater setting", x.runScript(2, 500004_700040L), OddRulers.NONE);
        c.due("a smaller range", x.runScript(2, 510010_900000L), OddRulers.NONE);
        c.due("zeros before it", x.runScript(2, 400000L), 0);
        c.due("zeros before it in three", x.runScript(3, 100020_400000L), 0);
        c.due("the state stays", Picture.of(x), before);
        c.due("and what is remembered", x.undo(), 4);
        OddRulers four = Make.rulers(Make.row(5), Make.row(5), Make.row(5), Make.row(5));
        c.due("a fifth", four.runScript(1, 100005), 0);
        c.due("nothing is kept from one run to the next", x.runScript(1, 800401), OddRulers.NONE);
    }

    static void promise24_wrong(Checks c) {
        OddRulers x = two();
        long[][] wrong = {{0, 0}, {4, 0}, {-1, 0}, {1, -1}, {1, 1000000}, {2, 1000000000000L}, {3, 1000000000000000000L},
            {3, Long.MAX_VALUE}, {3, Long.MIN_VALUE}, {Integer.MAX_VALUE, 1}, {0, -1}};
        for (long[] a : wrong) {
            c.refused(x, "runScript(" + a[0] + ", " + a[1] + ")", Checks.ARGUMENT,
                    () -> x.runScript((int) a[0], a[1]));
        }
        c.due("six digits", x.runScript(1, 999999), 0);
        c.due("twelve digits", x.runScript(2, 999999999999L), 0);
        c.due("eighteen digits", x.runScript(3, 999999999999999999L), 0);
        c.due("zero", x.runScript(3, 0), 0);
    }

    static void promise25_simulate(Checks c) {
        OddRulers x = two();
        String before = Picture.of(x);
        long[] seeds = {0, 1, -1, 7, 123456789L, Long.MAX_VALUE, Long.MIN_VALUE, 4242};
        for (long seed : seeds) {
            for (int m = 1; m <= 60; m++) {
                Model model = new Model();
                model.ruler(12);
                model.mark(0, 4, true);
                model.mark(0, 9, true);
                model.ruler(7);
                model.mark(1, 2, true);
                c.due("simulate(" + seed + ", " + m + ")", x.simulate(seed, m), model.simulate(seed, m));
            }
        }
        c.due("the state stays", Picture.of(x), before);
        c.due("and what is remembered", x.undo(), 4);
        int[] wrong = {0, -1, 61, Integer.MIN_VALUE, Integer.MAX_VALUE};
        for (int m : wrong) {
            c.refused(x, "simulate(1, " + m + ")", Checks.ARGUMENT, () -> x.simulate(1, m));
        }
    }

    static void promise25_eachTurn(Checks c) {
        // The seed that makes r the number that is wanted in the first turn, by the inverse of the factor.
        OddRulers x = two();
        c.due("0: ruler(2 + 38)", x.simulate(seedFor(38 * 8), 1), 10000 * 9 + 10 * lengthsWith(40) + 3);
        c.due("0: ruler(2 + 39 % 39)", x.simulate(seedFor(39 * 8), 1), 10000 * 9 + 10 * lengthsWith(2) + 3);
        for (int kind = 1; kind <= 4; kind++) {
            // q = 256 + 4 * 24 = 352: ruler 0, place 88 % 41 = 6, put.
            c.due(kind + ": mark(0, 6, true)", x.simulate(seedFor(352 * 8 + kind), 1) / 10000, 8);
            // q = 16: ruler 0, place 4, taken away.
            c.due(kind + ": mark(0, 4, false)", x.simulate(seedFor(16 * 8 + kind), 1) / 10000, 6);
            // q = 0: an end is left.
            c.due(kind + ": mark(0, 0, false)", x.simulate(seedFor(kind), 1), 70222);
            // q = 2: no such ruler.
            c.due(kind + ": mark(2, 0, false)", x.simulate(seedFor(16 + kind), 1), 70222);
        }
        // q = 4: ruler 0, length 3.
        c.due("5: cut(0, 3)", x.simulate(seedFor(4 * 8 + 5), 1) / 10000, 5);
        // q = 44: ruler 0, length 13.
        c.due("5: cut(0, 13)", x.simulate(seedFor(44 * 8 + 5), 1), 70222);
        c.due("6: turn(0)", x.simulate(seedFor(6), 1), 70222);
        // q = 3: setting 0 is 4, by which all 40 can be laid.
        c.due("7: set(0, 4)", x.simulate(seedFor(3 * 8 + 7), 1), 70402);
        // q = 8: setting 1 is 10, and all of these can be laid.
        c.due("7: set(1, 10)", x.simulate(seedFor(8 * 8 + 7), 1), 70102);
        // q = 16 * 140 + 8: setting 1 is 150.
        c.due("7: set(1, 150)", x.simulate(seedFor((16 * 140 + 8) * 8 + 7), 1), 70222);
    }

    private static long seedFor(long r) {
        long factor = 6364136223846793005L;
        long inverse = factor;
        for (int i = 0; i < 6; i++) {
            inverse *= 2 - factor * inverse;
        }
        return ((r << 33) - 1442695040888963407L) * inverse;
    }

    private static int lengthsWith(int length) {
        OddRulers x = two();
        x.ruler(length);
        return x.about(5);
    }
}
