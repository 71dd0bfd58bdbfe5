/** Promises 6 to 10: what there is. */
final class LookTest {
    private LookTest() {
    }

    static void promise06_about(Checks c) {
        OddRulers x = Make.rulers(Make.row(12, 4, 9), Make.row(7, 2));
        int[] want = {2, 7, 9, 8, 1, 22, 2, 2, 40};
        for (int what = 0; what <= 8; what++) {
            c.due("about(" + what + ")", x.about(what), want[what]);
        }
        int[] wrong = {-1, 9, Integer.MIN_VALUE, Integer.MAX_VALUE};
        for (int what : wrong) {
            c.refused(x, "about(" + what + ")", Checks.ARGUMENT, () -> x.about(what));
        }
        OddRulers full = new OddRulers();
        for (int r = 0; r < 4; r++) {
            full.ruler(40);
            for (int p = 1; p < 40; p++) {
                full.mark(r, p, true);
            }
        }
        full.set(0, 6);
        full.set(1, 150);
        int[] most = {4, 164, 3280, 40, 1, 150, 0, 6, 150};
        for (int what = 0; what <= 8; what++) {
            c.due("full: about(" + what + ")", full.about(what), most[what]);
        }
    }

    static void promise06_divisor(Checks c) {
        c.due("40 and 24", Make.rulers(Make.row(40), Make.row(24)).about(4), 8);
        c.due("40", Make.rulers(Make.row(40)).about(4), 40);
        c.due("9 with a mark at 6", Make.rulers(Make.row(9, 6)).about(4), 3);
        c.due("4 and 6", Make.rulers(Make.row(4), Make.row(6)).about(4), 2);
        c.due("2 with a mark at 1", Make.rulers(Make.row(2, 1)).about(4), 1);
        c.due("6, 10 and 15", Make.rulers(Make.row(6), Make.row(10), Make.row(15)).about(4), 1);
    }

    static void promise06_lengthsAndGaps(Checks c) {
        OddRulers x = Make.rulers(Make.row(10), Make.row(4));
        // Two layings of 10 and 4 end at 4, 6, 8, 10, 14 and 20.
        x.set(1, 20);
        c.due("laid", x.about(5), 6);
        c.due("gaps", x.about(6), 6);
        x.set(1, 10);
        c.due("laid up to 10", x.about(5), 4);
        c.due("gaps up to 10", x.about(6), 4);
        x.set(0, 1);
        c.due("laid by one", x.about(5), 2);
        c.due("gaps by one", x.about(6), 2);
        OddRulers y = Make.rulers(Make.row(3, 1));
        y.set(0, 6);
        y.set(1, 10);
        c.due("no gaps", y.about(6), 0);
        c.due("all laid", y.about(5), 10);
    }

    static void promise07_rulerOf(Checks c) {
        OddRulers x = Make.rulers(Make.row(12, 4, 9), Make.row(6, 1, 4), Make.row(2, 1), Make.row(40));
        int[][] want = {{12, 4, 6, 6, 3, 1}, {6, 4, 6, 6, 1, 7}, {2, 3, 3, 2, 1, 3}, {40, 2, 1, 1, 40, 1}};
        for (int r = 0; r < 4; r++) {
            for (int what = 0; what < 6; what++) {
                c.due("rulerOf(" + r + ", " + what + ")", x.rulerOf(r, what), want[r][what]);
            }
        }
        c.refused(x, "rulerOf(0, -1)", Checks.ARGUMENT, () -> x.rulerOf(0, -1));
        c.refused(x, "rulerOf(0, 6)", Checks.ARGUMENT, () -> x.rulerOf(0, 6));
        c.refused(x, "rulerOf(-1, 0)", Checks.INDEX, () -> x.rulerOf(-1, 0));
        c.refused(x, "rulerOf(4, 0)", Checks.INDEX, () -> x.rulerOf(4, 0));
        c.refused(x, "rulerOf(4, 6)", Checks.INDEX, () -> x.rulerOf(4, 6));
        OddRulers y = Make.rulers(Make.row(12));
        c.throwing("rulerOf(1, 0) of one", Checks.INDEX, () -> y.rulerOf(1, 0));
    }

    static void promise07_commonest(Checks c) {
        OddRulers x = Make.rulers(Make.row(10, 3, 6, 9), Make.row(9, 2, 7));
        c.due("three of 3", x.rulerOf(0, 4), 3);
        c.due("two of 2 and of 7", x.rulerOf(1, 4), 2);
        OddRulers full = new OddRulers();
        full.ruler(40);
        for (int p = 1; p < 40; p++) {
            full.mark(0, p, true);
        }
        int[] want = {40, 41, 820, 40, 1, 41};
        for (int what = 0; what < 6; what++) {
            c.due("full: rulerOf(0, " + what + ")", full.rulerOf(0, what), want[what]);
        }
    }

    static void promise08_isMarked(Checks c) {
        OddRulers x = Make.rulers(Make.row(5, 2), Make.row(40, 39));
        int[] want = {1, 0, 1, 0, 0, 1};
        for (int p = 0; p <= 5; p++) {
            c.due("isMarked(0, " + p + ")", x.isMarked(0, p), want[p]);
        }
        c.due("isMarked(1, 38)", x.isMarked(1, 38), 0);
        c.due("isMarked(1, 39)", x.isMarked(1, 39), 1);
        c.due("isMarked(1, 40)", x.isMarked(1, 40), 1);
        int[][] wrong = {{0, -1}, {0, 6}, {1, 41}, {2, 0}, {-1, 0}, {0, 64}, {0, Integer.MIN_VALUE},
            {Integer.MAX_VALUE, 0}};
        for (int[] a : wrong) {
            c.refused(x, "isMarked(" + a[0] + ", " + a[1] + ")", Checks.INDEX, () -> x.isMarked(a[0], a[1]));
        }
    }

    static void promise09_span(Checks c) {
        OddRulers x = Make.rulers(Make.row(7, 2), Make.row(12, 4, 9));
        int[][] want = {{0, 4, 4, 1}, {0, 9, 9, 1}, {0, 12, 12, 1}, {4, 9, 5, 2}, {4, 12, 8, 1}, {9, 12, 3, 1}};
        for (int k = 0; k < 6; k++) {
            for (int what = 0; what < 4; what++) {
                c.due("span(1, " + k + ", " + what + ")", x.span(1, k, what), want[k][what]);
            }
        }
        c.due("span(0, 2, 3)", x.span(0, 2, 3), 2);
        c.due("span(0, 2, 0)", x.span(0, 2, 0), 2);
        c.refused(x, "span(0, 3, 0)", Checks.INDEX, () -> x.span(0, 3, 0));
        c.refused(x, "span(0, -1, 0)", Checks.INDEX, () -> x.span(0, -1, 0));
        c.refused(x, "span(2, 0, 0)", Checks.INDEX, () -> x.span(2, 0, 0));
        c.refused(x, "span(-1, 0, 0)", Checks.INDEX, () -> x.span(-1, 0, 0));
        c.refused(x, "span(1, 6, 4)", Checks.INDEX, () -> x.span(1, 6, 4));
        c.refused(x, "span(1, 5, 4)", Checks.ARGUMENT, () -> x.span(1, 5, 4));
        c.refused(x, "span(1, 5, -1)", Checks.ARGUMENT, () -> x.span(1, 5, -1));
    }

    static void promise09_allSpansOfAFullRuler(Checks c) {
        OddRulers x = new OddRulers();
        x.ruler(40);
        for (int p = 1; p < 40; p++) {
            x.mark(0, p, true);
        }
        int k = 0;
        for (int low = 0; low <= 40; low++) {
            for (int high = low + 1; high <= 40; high++) {
                c.due("lower mark of " + k, x.span(0, k, 0), low);
                c.due("greater mark of " + k, x.span(0, k, 1), high);
                c.due("length of " + k, x.span(0, k, 2), high - low);
                c.due("spans like " + k, x.span(0, k, 3), 41 - (high - low));
                k++;
            }
        }
        c.throwing("span(0, 820, 0)", Checks.INDEX, () -> x.span(0, 820, 0));
    }

    static void promise10_gap(Checks c) {
        OddRulers x = Make.rulers(Make.row(10), Make.row(4));
        x.set(1, 25);
        // Two layings of 10 and 4 end at 4, 6, 8, 10, 14 and 20.
        int[][] want = {{1, 3}, {5, 1}, {7, 1}, {9, 1}, {11, 3}, {15, 5}, {21, 5}};
        for (int k = 0; k < want.length; k++) {
            c.due("gap(" + k + ", 0)", x.gap(k, 0), want[k][0]);
            c.due("gap(" + k + ", 1)", x.gap(k, 1), want[k][1]);
        }
        c.refused(x, "gap(7, 0)", Checks.INDEX, () -> x.gap(7, 0));
        c.refused(x, "gap(7, 2)", Checks.INDEX, () -> x.gap(7, 2));
        c.refused(x, "gap(-1, 0)", Checks.INDEX, () -> x.gap(-1, 0));
        c.refused(x, "gap(6, 2)", Checks.ARGUMENT, () -> x.gap(6, 2));
        c.refused(x, "gap(0, -1)", Checks.ARGUMENT, () -> x.gap(0, -1));
        x.set(1, 11);
        c.due("the range cuts it", x.gap(4, 1), 1);
        c.due("the last begins at the end of the range", x.gap(4, 0), 11);
        c.throwing("no more", Checks.INDEX, () -> x.gap(5, 0));
        OddRulers z = Make.rulers(Make.row(31), Make.row(25));
        z.set(0, 5);
        z.set(1, 150);
        // 149 is 4 times 31 and 25, but 150 is 6 times 25.
        c.due("a gap at 150", z.gap(z.about(6) - 1, 0), 150);
        c.due("of one", z.gap(z.about(6) - 1, 1), 1);
        OddRulers y = new OddRulers();
        y.set(1, 150);
        c.due("all of the range", y.gap(0, 1), 150);
    }
}
