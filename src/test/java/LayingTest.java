/** Promises 17 to 23: what would be. */
final class LayingTest {
    private LayingTest() {
    }

    static void promise17_fewest(Checks c) {
        OddRulers x = Make.rulers(Make.row(12, 4, 9), Make.row(7, 2));
        int[][] want = {{0, 0}, {1, 2}, {2, 1}, {3, 1}, {11, 2}, {17, 2}, {40, 4}, {199, 17}, {200, 17}};
        for (int[] a : want) {
            c.due("fewest(" + a[0] + ", 0)", x.fewest(a[0], 0), a[1]);
            c.due("fewest(" + a[0] + ", 1)", x.fewest(a[0], 1), a[1]);
        }
        x.set(0, 1);
        c.due("whatever setting 0 allows", x.fewest(199, 0), 17);
        c.due("whatever setting 0 allows", x.fewest(199, 1), 17);
        int[][] wrong = {{-1, 0}, {201, 0}, {0, 2}, {0, -1}, {201, 1}, {-1, 1}, {256, 1}, {Integer.MIN_VALUE, 1}};
        for (int[] a : wrong) {
            c.refused(x, "fewest(" + a[0] + ", " + a[1] + ")", Checks.ARGUMENT, () -> x.fewest(a[0], a[1]));
        }
    }

    static void promise17_edges(Checks c) {
        OddRulers none = new OddRulers();
        OddRulers two = Make.rulers(Make.row(2));
        OddRulers forty = Make.rulers(Make.row(40), Make.row(39));
        for (int way = 0; way < 2; way++) {
            c.due("0 without rulers", none.fewest(0, way), 0);
            c.due("1 without rulers", none.fewest(1, way), OddRulers.NONE);
            c.due("200 by 2", two.fewest(200, way), 100);
            c.due("199 by 2", two.fewest(199, way), OddRulers.NONE);
            c.due("200 by 40", forty.fewest(200, way), 5);
            c.due("1 by 40 and 39", forty.fewest(1, way), 2);
            // 5 times 40 less 5 times 39; each laying has to end at 0 to 200.
            c.due("5 by 40 and 39", forty.fewest(5, way), 10);
        }
        for (int t = 0; t <= 200; t++) {
            c.due("both ways for " + t, forty.fewest(t, 0), forty.fewest(t, 1));
        }
    }

    static void promise17_allLengths(Checks c) {
        OddRulers x = Make.rulers(Make.row(40), Make.row(27));
        for (int t = 0; t <= 200; t++) {
            int want = new Model.Lengths(new int[] {27, 40}).fewest(t);
            c.due("fewest(" + t + ", 0)", x.fewest(t, 0), want);
            c.due("fewest(" + t + ", 1)", x.fewest(t, 1), want);
        }
    }

    static void promise18_laying(Checks c) {
        OddRulers x = Make.rulers(Make.row(12, 4, 9), Make.row(7, 2));
        row(c, x, 1, new int[][] {{0, 0, 1, 4}, {0, 5, 0, 1}});
        row(c, x, 2, new int[][] {{1, 0, 1, 2}});
        row(c, x, 3, new int[][] {{0, 5, 1, 3}});
        row(c, x, 11, new int[][] {{0, 0, 1, 4}, {1, 1, 1, 11}});
        row(c, x, 17, new int[][] {{0, 1, 1, 9}, {0, 4, 1, 17}});
        row(c, x, 40, new int[][] {{0, 0, 1, 4}, {0, 2, 1, 16}, {0, 2, 1, 28}, {0, 2, 1, 40}});
        row(c, x, 0, new int[0][]);
        row(c, Make.rulers(Make.row(3, 1, 2)), 1, new int[][] {{0, 0, 1, 1}});
        row(c, Make.rulers(Make.row(40)), 40, new int[][] {{0, 0, 1, 40}});
        row(c, Make.rulers(Make.row(5), Make.row(40, 39)), 1, new int[][] {{1, 2, 1, 1}});
    }

    static void promise18_lowestRulerThenSpan(Checks c) {
        OddRulers x = Make.rulers(Make.row(10, 5), Make.row(5));
        row(c, x, 5, new int[][] {{0, 0, 1, 5}});
        OddRulers y = Make.rulers(Make.row(30), Make.row(10, 5), Make.row(5));
        row(c, y, 5, new int[][] {{1, 0, 1, 5}});
        // 25 is 30 - 5 and 5 - 30 is not; the first laying has to be of ruler 0.
        row(c, y, 25, new int[][] {{0, 0, 1, 30}, {1, 0, 0, 25}});
    }

    static void promise18_eachEndsAt0To200(Checks c) {
        OddRulers x = Make.rulers(Make.row(40), Make.row(39));
        int[] ends = {40, 80, 120, 160, 200, 161, 122, 162, 123, 163, 124, 85, 46, 7};
        for (int k = 0; k < ends.length; k++) {
            c.due("never beyond 200: " + k, x.laying(7, k, 3), ends[k]);
        }
        OddRulers y = Make.rulers(Make.row(39), Make.row(40));
        int[] others = {40, 1, 41, 2, 42, 3, 43, 4, 44, 5, 45, 6, 46, 7};
        for (int k = 0; k < others.length; k++) {
            c.due("never below 0: " + k, y.laying(7, k, 3), others[k]);
        }
    }

    static void promise18_noLaying(Checks c) {
        OddRulers x = Make.rulers(Make.row(6));
        for (int what = 0; what < 4; what++) {
            c.due("7 cannot be laid", x.laying(7, 0, what), OddRulers.NONE);
            c.due("12 by two", x.laying(12, 2, what), OddRulers.NONE);
            c.due("far too many", x.laying(12, Integer.MAX_VALUE, what), OddRulers.NONE);
            c.due("none for 0", x.laying(0, 0, what), OddRulers.NONE);
            c.due("none without rulers", new OddRulers().laying(3, 0, what), OddRulers.NONE);
        }
        int[][] wrong = {{-1, 0, 0}, {201, 0, 0}, {7, 0, 4}, {7, 0, -1}, {6, -1, 0}, {0, Integer.MIN_VALUE, 3}};
        for (int[] a : wrong) {
            c.refused(x, "laying(" + a[0] + ", " + a[1] + ", " + a[2] + ")", Checks.ARGUMENT,
                    () -> x.laying(a[0], a[1], a[2]));
        }
        OddRulers two = Make.rulers(Make.row(2));
        c.due("the hundredth", two.laying(200, 99, 3), 200);
        c.due("the hundred and first", two.laying(200, 100, 3), OddRulers.NONE);
    }

    private static void row(Checks c, OddRulers x, int t, int[][] want) {
        for (int k = 0; k < want.length; k++) {
            for (int what = 0; what < 4; what++) {
                c.due("laying(" + t + ", " + k + ", " + what + ")", x.laying(t, k, what), want[k][what]);
            }
        }
        for (int what = 0; what < 4; what++) {
            c.due("laying(" + t + ", " + want.length + ", " + what + ")", x.laying(t, want.length, what),
                    OddRulers.NONE);
        }
    }

    static void promise19_why(Checks c) {
        OddRulers none = new OddRulers();
        c.due("0 without rulers", none.why(0), 0);
        c.due("1 without rulers", none.why(1), 1);
        c.due("200 without rulers", none.why(200), 1);
        OddRulers x = Make.rulers(Make.row(9, 6));
        c.due("3", x.why(3), 0);
        c.due("12", x.why(12), 0);
        c.due("18", x.why(18), 0);
        c.due("19", x.why(19), 2);
        c.due("20", x.why(20), 2);
        c.due("21", x.why(21), 3);
        c.due("198", x.why(198), 3);
        c.due("200", x.why(200), 2);
        x.set(0, 3);
        c.due("21 by three", x.why(21), 0);
        c.due("beyond the range all the same", x.why(27), 0);
        c.refused(x, "why(-1)", Checks.ARGUMENT, () -> x.why(-1));
        c.refused(x, "why(201)", Checks.ARGUMENT, () -> x.why(201));
    }

    static void promise20_bestMark(Checks c) {
        OddRulers x = Make.rulers(Make.row(12, 4, 9), Make.row(7, 2));
        c.due("bestMark(0, 0)", x.bestMark(0, 0), 1);
        c.due("bestMark(0, 1)", x.bestMark(0, 1), 24);
        c.due("bestMark(1, 0)", x.bestMark(1, 0), 1);
        c.due("bestMark(1, 1)", x.bestMark(1, 1), 22);
        c.refused(x, "bestMark(0, 2)", Checks.ARGUMENT, () -> x.bestMark(0, 2));
        c.refused(x, "bestMark(0, -1)", Checks.ARGUMENT, () -> x.bestMark(0, -1));
        c.refused(x, "bestMark(2, 0)", Checks.INDEX, () -> x.bestMark(2, 0));
        c.refused(x, "bestMark(2, 2)", Checks.INDEX, () -> x.bestMark(2, 2));
        c.refused(x, "bestMark(-1, 0)", Checks.INDEX, () -> x.bestMark(-1, 0));
    }

    static void promise20_edges(Checks c) {
        OddRulers x = Make.rulers(Make.row(2));
        x.set(0, 1);
        c.due("the only place", x.bestMark(0, 0), 1);
        c.due("lays 1 and 2", x.bestMark(0, 1), 2);
        x.mark(0, 1, true);
        c.due("each place has a mark", x.bestMark(0, 0), OddRulers.NONE);
        c.due("each place has a mark", x.bestMark(0, 1), OddRulers.NONE);
        c.due("but what is wrong is wrong", Checks.answer(() -> x.bestMark(0, 2)), "throws." + Checks.ARGUMENT);
        OddRulers y = Make.rulers(Make.row(6));
        y.set(0, 1);
        // Each but the middle one makes two new lengths; of these the lowest place is told.
        c.due("the lowest of several", y.bestMark(0, 0), 1);
        c.due("how many", y.bestMark(0, 1), 3);
        y.mark(0, 1, true);
        c.due("0, 1, 4 and 6 measure all", y.bestMark(0, 0), 4);
        c.due("1 to 6", y.bestMark(0, 1), 6);
        OddRulers z = Make.rulers(Make.row(6, 1, 4));
        z.set(0, 1);
        z.set(1, 10);
        c.due("no mark makes more", z.bestMark(0, 0), 2);
        c.due("as many as now", z.bestMark(0, 1), 6);
    }

    static void promise21_needless(Checks c) {
        OddRulers x = Make.rulers(Make.row(12, 4, 9), Make.row(7, 2));
        c.due("needless(0)", x.needless(0), 0);
        c.due("needless(1)", x.needless(1), 1);
        c.refused(x, "needless(2)", Checks.INDEX, () -> x.needless(2));
        c.refused(x, "needless(-1)", Checks.INDEX, () -> x.needless(-1));
        OddRulers y = Make.rulers(Make.row(5, 1, 2, 3, 4), Make.row(40));
        y.set(0, 1);
        // Each of them alone: without any one, the others still measure 1 to 5.
        c.due("each alone", y.needless(0), 4);
        c.due("ends are not inner marks", y.needless(1), 0);
        OddRulers z = Make.rulers(Make.row(40, 39));
        z.set(0, 1);
        z.set(1, 10);
        c.due("the place 39", z.needless(0), 0);
        z.mark(0, 1, true);
        c.due("39 or 1", z.needless(0), 2);
        OddRulers w = Make.rulers(Make.row(40, 20));
        w.set(1, 10);
        c.due("nothing can be laid with it either", w.needless(0), 1);
    }

    static void promise22_twin(Checks c) {
        OddRulers x = Make.rulers(Make.row(12, 4, 9), Make.row(20, 7, 12), Make.row(9, 1, 6), Make.row(30));
        twin(c, x, 0, 0, false, 100);
        twin(c, x, 0, 1, false, 97);
        twin(c, x, 1, 0, false, 103);
        twin(c, x, 2, 1, false, 94);
        twin(c, x, 0, 3, false, OddRulers.NONE);
        twin(c, x, 3, 0, false, OddRulers.NONE);
        twin(c, x, 3, 3, false, OddRulers.NONE);
        twin(c, x, 3, 3, true, OddRulers.NONE);
        twin(c, x, 0, 0, true, 101);
        twin(c, x, 0, 1, true, 96);
        twin(c, x, 1, 2, true, 104);
        int[][] wrong = {{4, 0}, {0, 4}, {-1, 0}, {0, -1}};
        for (int[] a : wrong) {
            c.refused(x, "twin(" + a[0] + ", " + a[1] + ")", Checks.INDEX, () -> x.twin(a[0], a[1], false));
            c.refused(x, "twin(" + a[0] + ", " + a[1] + ")", Checks.INDEX, () -> x.twin(a[0], a[1], true));
        }
    }

    static void promise22_edges(Checks c) {
        OddRulers x = Make.rulers(Make.row(40, 1), Make.row(40, 39), Make.row(40, 1, 2, 4), Make.row(40, 30, 32, 33));
        twin(c, x, 0, 1, false, 62);
        twin(c, x, 1, 0, false, 138);
        twin(c, x, 0, 1, true, 100);
        twin(c, x, 2, 3, false, OddRulers.NONE);
        twin(c, x, 2, 3, true, 94);
        twin(c, x, 3, 2, true, 94);
        twin(c, x, 0, 2, false, OddRulers.NONE);
        x.mark(3, 34, true);
        twin(c, x, 2, 3, true, OddRulers.NONE);
        OddRulers y = Make.rulers(Make.row(40, 39), Make.row(40, 1, 30), Make.row(40, 1, 31));
        twin(c, y, 0, 1, false, OddRulers.NONE);
        twin(c, y, 1, 0, false, OddRulers.NONE);
        twin(c, y, 1, 2, false, OddRulers.NONE);
    }

    private static void twin(Checks c, OddRulers x, int r, int other, boolean turned, int want) {
        c.due("twin(" + r + ", " + other + ", " + turned + ")", x.twin(r, other, turned), want);
    }

    static void promise23_layings(Checks c) {
        c.due("without rulers", new OddRulers().layings(), OddRulers.NONE);
        OddRulers x = Make.rulers(Make.row(12, 4, 9), Make.row(7, 2));
        c.due("layings()", x.layings(), 4);
        x.set(0, 6);
        c.due("whatever setting 0 is", x.layings(), 4);
        x.set(1, 10);
        c.due("a small range", x.layings(), 2);
        x.set(1, 150);
        c.due("more than setting 0 can be", x.layings(), 13);
        c.due("2 alone", Make.rulers(Make.row(2)).layings(), OddRulers.NONE);
        OddRulers y = Make.rulers(Make.row(2, 1));
        c.due("40 by 2 and 1", y.layings(), 20);
        y.set(1, 150);
        c.due("150 by 2 and 1", y.layings(), 75);
        OddRulers z = Make.rulers(Make.row(40), Make.row(39));
        z.set(1, 10);
        c.due("10 takes most", z.layings(), 20);
        OddRulers w = Make.rulers(Make.row(12, 2, 4, 6, 9));
        w.set(1, 10);
        c.due("1 takes most", w.layings(), 2);
        OddRulers v = Make.rulers(Make.row(9, 2, 4));
        v.set(1, 149);
        c.due("up to 149", v.layings(), 17);
        v.set(1, 150);
        c.due("150 takes most", v.layings(), 18);
    }
}
