/** Promises 20 to 22: marks that would be best, needless marks, twins. */
final class MarkTest {
    private MarkTest() {
    }

    // ---- promise 20

    @Says({"Finds the best place for another mark.", "`r`: ruler", "Returns that number;",
        "`what`: 0: the place without a mark at which another mark would let most lengths of the range be laid,",
        "1: how many these are"})
    static void promise20_bestMark(Checks c) {
        OddRulers x = Make.two();
        c.due("bestMark(0, 0)", x.bestMark(0, 0), 1);
        c.due("bestMark(0, 1)", x.bestMark(0, 1), 24);
        c.due("bestMark(1, 0)", x.bestMark(1, 0), 1);
        c.due("bestMark(1, 1)", x.bestMark(1, 1), 22);
        c.unchanged(Make::livedLong, "bestMark(0, 0)", y -> y.bestMark(0, 0));
        c.unchanged(Make::livedLong, "bestMark(0, 1)", y -> y.bestMark(0, 1));
    }

    @Says({"would let most lengths of the range be laid",
        "Ahead of the calls `fewest`, `laying`, `why`, `bestMark`, `needless`, `twin`, `layings` the interface says: ---- "
            + "what would be; these and all following methods up to the save slots change nothing."})
    static void promise20_asIfTried(Checks c) {
        int[][][] all = {{{12, 4, 9}, {7, 2}}, {{40}}, {{40, 39}, {33}}, {{2}, {40}}, {{30, 1, 5}, {12}, {40, 20}}};
        for (int[][] rulers : all) {
            for (int layings = 1; layings <= 3; layings++) {
                for (int range = 10; range <= 150; range += 35) {
                    for (int r = 0; r < rulers.length; r++) {
                        tryEach(c, Make.set(layings, range, rulers), r);
                    }
                }
            }
        }
    }

    private static void tryEach(Checks c, OddRulers x, int r) {
        int best = OddRulers.NONE;
        int most = OddRulers.NONE;
        for (int p = 0; p <= x.rulerOf(r, 0); p++) {
            if (x.isMarked(r, p) == 0) {
                x.mark(r, p, true);
                if (x.about(5) > most) {
                    most = x.about(5);
                    best = p;
                }
                x.undo();
            }
        }
        c.due("the best place of ruler " + r, x.bestMark(r, 0), best);
        c.due("lengths then", x.bestMark(r, 1), most);
    }

    @Says("of several the lowest;")
    static void promise20_lowestOfSeveral(Checks c) {
        // Each but the middle one makes two new lengths.
        due(c, Make.set(1, 40, Make.row(6)), 0, 1, 3);
        // 1, 2, 3, 4, 5 and 6 by 0, 1, 4 and 6.
        due(c, Make.set(1, 40, Make.row(6, 1)), 0, 4, 6);
        // No mark makes more.
        due(c, Make.set(1, 10, Make.row(6, 1, 4)), 0, 2, 6);
        due(c, Make.set(6, 10, Make.row(3, 1), Make.row(40)), 1, 1, 10);
    }

    @Says("at which another mark would let")
    static void promise20_eachPlaceButOne(Checks c) {
        due(c, Make.set(1, 10, Make.row(2)), 0, 1, 2);
        for (int p = 1; p < 40; p++) {
            OddRulers x = Make.rulers(Make.fullRow(40));
            x.mark(0, p, false);
            due(c, x, 0, p, 40);
        }
    }

    @Says("NONE if each place has a mark.")
    static void promise20_none(Checks c) {
        for (int n : new int[] {2, 3, 39, 40}) {
            due(c, Make.rulers(Make.fullRow(n)), 0, OddRulers.NONE, OddRulers.NONE);
        }
        due(c, Make.rulers(Make.row(40), Make.fullRow(2)), 1, OddRulers.NONE, OddRulers.NONE);
        OddRulers x = Make.rulers(Make.row(3, 1));
        x.cut(0, 2);
        due(c, x, 0, OddRulers.NONE, OddRulers.NONE);
    }

    private static void due(Checks c, OddRulers x, int r, int place, int lengths) {
        c.due("bestMark(" + r + ", 0)", x.bestMark(r, 0), place);
        c.due("bestMark(" + r + ", 1)", x.bestMark(r, 1), lengths);
    }

    @Says("Throws `IndexOutOfBoundsException` if there is no such ruler")
    static void promise20_noRuler(Checks c) {
        c.refused(Make::two, "bestMark(2, 0)", Checks.INDEX, x -> x.bestMark(2, 0));
        c.refused(Make::four, "bestMark(4, 1)", Checks.INDEX, x -> x.bestMark(4, 1));
        for (int r : Make.FAR_OUT) {
            c.refused(Make::livedLong, "bestMark(" + r + ", 0)", Checks.INDEX, x -> x.bestMark(r, 0));
        }
    }

    @Says("Throws `IllegalArgumentException` if what is neither 0 nor 1")
    static void promise20_wrong(Checks c) {
        c.refused(Make::two, "bestMark(1, 2)", Checks.ARGUMENT, x -> x.bestMark(1, 2));
        for (int what : Make.FAR_OUT) {
            c.refused(Make::livedLong, "bestMark(1, " + what + ")", Checks.ARGUMENT, x -> x.bestMark(1, what));
        }
        c.refused(() -> Make.rulers(Make.fullRow(2)), "bestMark(0, 2) where each place has a mark", Checks.ARGUMENT,
                x -> x.bestMark(0, 2));
    }

    @Says("If several exceptions apply to a call, the one that its description names first is thrown.")
    static void promise20_wrongTwice(Checks c) {
        c.refused(Make::two, "bestMark(2, 2)", Checks.INDEX, x -> x.bestMark(2, 2));
        c.refused(Make::two, "bestMark(-1, -1)", Checks.INDEX, x -> x.bestMark(-1, -1));
        c.refused(OddRulers::new, "bestMark(0, 2)", Checks.INDEX, x -> x.bestMark(0, 2));
    }

    // ---- promise 21

    @Says({"Finds needless marks.", "`r`: ruler",
        "Returns the inner marks of which each alone could be taken away so that as many lengths of the range as now can "
            + "be laid, how many."})
    static void promise21_needless(Checks c) {
        OddRulers x = Make.two();
        c.due("needless(0)", x.needless(0), 0);
        c.due("needless(1)", x.needless(1), 1);
        c.unchanged(Make::livedLong, "needless(0)", y -> y.needless(0));
    }

    @Says("of which each alone could be taken away")
    static void promise21_eachAlone(Checks c) {
        // Without any one of them, the others still measure 1 to 5.
        c.due("all four", Make.set(1, 40, Make.row(5, 1, 2, 3, 4)).needless(0), 4);
        c.due("39 or 1", Make.set(1, 10, Make.row(40, 1, 39)).needless(0), 2);
        c.due("39 alone", Make.set(1, 10, Make.row(40, 39)).needless(0), 0);
        c.due("all 39 inner marks", Make.set(2, 40, Make.fullRow(40)).needless(0), 39);
    }

    @Says("the inner marks of which each alone")
    static void promise21_noInnerMarks(Checks c) {
        c.due("2", Make.rulers(Make.row(2)).needless(0), 0);
        c.due("40, of no use at all", Make.set(1, 10, Make.row(40)).needless(0), 0);
        c.due("the place 1", Make.set(1, 10, Make.row(40, 1), Make.row(2, 1)).needless(0), 1);
        c.due("the place 39", Make.set(1, 10, Make.row(40, 39), Make.row(2, 1)).needless(0), 1);
        c.due("the end 40", Make.set(1, 10, Make.row(40), Make.row(2, 1)).needless(0), 0);
    }

    @Says("so that as many lengths of the range as now can be laid")
    static void promise21_asIfTried(Checks c) {
        int[][][] all = {{{12, 4, 9}, {7, 2}}, {{40, 20}}, {{40, 1, 2, 39}, {33, 5}}, {{2, 1}, {40, 3, 7, 11}},
            {{30, 1, 5, 20, 25}, {12, 6}, {40, 20}}};
        for (int[][] rulers : all) {
            for (int layings = 1; layings <= 3; layings++) {
                for (int range = 10; range <= 150; range += 35) {
                    for (int r = 0; r < rulers.length; r++) {
                        tryEachAway(c, Make.set(layings, range, rulers), r);
                    }
                }
            }
        }
    }

    private static void tryEachAway(Checks c, OddRulers x, int r) {
        int now = x.about(5);
        int count = 0;
        for (int p = 1; p < x.rulerOf(r, 0); p++) {
            if (x.isMarked(r, p) == 1) {
                x.mark(r, p, false);
                count += x.about(5) == now ? 1 : 0;
                x.undo();
            }
        }
        c.due("needless(" + r + ")", x.needless(r), count);
    }

    @Says("Throws `IndexOutOfBoundsException` if there is no such ruler")
    static void promise21_noRuler(Checks c) {
        c.refused(Make::two, "needless(2)", Checks.INDEX, x -> x.needless(2));
        c.refused(Make::four, "needless(4)", Checks.INDEX, x -> x.needless(4));
        for (int r : Make.FAR_OUT) {
            c.refused(Make::livedLong, "needless(" + r + ")", Checks.INDEX, x -> x.needless(r));
        }
    }

    // ---- promise 22

    @Says({"Tells whether a ruler is a twin of another one.", "`r`: ruler", "Returns k and 100; NONE if it is none.",
        "and these are the inner marks of the other one with k added to the place of each"})
    static void promise22_twin(Checks c) {
        OddRulers x = Make.rulers(Make.row(12, 4, 9), Make.row(20, 7, 12), Make.row(9, 1, 6), Make.row(20, 7, 13));
        twin(c, x, 0, 1, false, 97);
        twin(c, x, 1, 0, false, 103);
        twin(c, x, 2, 1, false, 94);
        twin(c, x, 3, 1, false, OddRulers.NONE);
        twin(c, x, 1, 3, false, OddRulers.NONE);
        c.unchanged(Make::livedLong, "twin(0, 1, false)", y -> y.twin(0, 1, false));
        c.unchanged(Make::livedLong, "twin(0, 1, true)", y -> y.twin(0, 1, true));
    }

    @Says({"`turned`: whether a turned twin is meant",
        "It is a turned twin by k if that is so for the other one as it is when it is turned."})
    static void promise22_turnedTwin(Checks c) {
        OddRulers x = Make.rulers(Make.row(12, 4, 9), Make.row(20, 7, 12), Make.row(40, 1, 2, 4),
                Make.row(40, 30, 32, 33));
        twin(c, x, 0, 0, true, 101);
        twin(c, x, 0, 1, true, 96);
        twin(c, x, 1, 0, true, 104);
        twin(c, x, 2, 3, true, 94);
        twin(c, x, 3, 2, true, 94);
        twin(c, x, 2, 3, false, OddRulers.NONE);
        twin(c, x, 2, 2, true, OddRulers.NONE);
        // It is the other one that is turned: at 9 of 10, and then at 1.
        OddRulers y = Make.rulers(Make.row(10, 9), Make.row(20, 3));
        twin(c, y, 0, 1, true, 92);
        twin(c, y, 1, 0, true, 102);
    }

    @Says("(k may be 0 or below)")
    static void promise22_leastAndGreatest(Checks c) {
        OddRulers x = Make.rulers(Make.row(40, 1), Make.row(40, 39), Make.row(2, 1), Make.row(40, 1));
        twin(c, x, 0, 1, false, 62);
        twin(c, x, 1, 0, false, 138);
        twin(c, x, 0, 1, true, 100);
        twin(c, x, 1, 1, true, 138);
        twin(c, x, 0, 0, true, 62);
        twin(c, x, 0, 2, false, 100);
        twin(c, x, 2, 1, false, 62);
        twin(c, x, 0, 3, false, 100);
    }

    @Says({"`other`: ruler (perhaps the same)"})
    static void promise22_itself(Checks c) {
        OddRulers x = Make.rulers(Make.row(12, 4, 9), Make.fullRow(40), Make.row(8, 1, 4, 7), Make.row(8, 1, 3));
        for (int r = 0; r < 4; r++) {
            twin(c, x, r, r, false, 100);
        }
        twin(c, x, 1, 1, true, 100);
        twin(c, x, 2, 2, true, 100);
        twin(c, x, 3, 3, true, 96);
    }

    @Says("A ruler is a twin of another one by k if it has as many inner marks, 1 or more,")
    static void promise22_asManyInnerMarks(Checks c) {
        OddRulers x = Make.rulers(Make.row(30), Make.row(30), Make.row(30, 5), Make.row(30, 5, 6));
        for (boolean turned : new boolean[] {false, true}) {
            twin(c, x, 0, 0, turned, OddRulers.NONE);
            twin(c, x, 0, 1, turned, OddRulers.NONE);
            twin(c, x, 0, 2, turned, OddRulers.NONE);
            twin(c, x, 2, 0, turned, OddRulers.NONE);
            twin(c, x, 2, 3, turned, OddRulers.NONE);
            twin(c, x, 3, 2, turned, OddRulers.NONE);
        }
        // Moved by 38 or 37, a mark would be far beyond 40.
        OddRulers y = Make.rulers(Make.row(40, 39), Make.row(40, 1, 30), Make.row(40, 38, 39), Make.row(40, 1, 39));
        twin(c, y, 0, 1, false, OddRulers.NONE);
        twin(c, y, 0, 3, false, OddRulers.NONE);
        twin(c, y, 1, 0, false, OddRulers.NONE);
        twin(c, y, 2, 1, false, OddRulers.NONE);
        twin(c, y, 2, 3, false, OddRulers.NONE);
        twin(c, y, 3, 2, false, OddRulers.NONE);
    }

    private static void twin(Checks c, OddRulers x, int r, int other, boolean turned, int want) {
        c.due("twin(" + r + ", " + other + ", " + turned + ")", x.twin(r, other, turned), want);
    }

    @Says("Throws `IndexOutOfBoundsException` if there is no such ruler")
    static void promise22_noRuler(Checks c) {
        for (boolean turned : new boolean[] {false, true}) {
            noTwin(c, 2, 0, turned);
            noTwin(c, 0, 2, turned);
            noTwin(c, 2, 2, turned);
            for (int far : Make.FAR_OUT) {
                noTwin(c, far, 0, turned);
                noTwin(c, 0, far, turned);
            }
            c.refused(Make::four, "twin(4, 0)", Checks.INDEX, x -> x.twin(4, 0, turned));
            c.refused(Make::four, "twin(0, 4)", Checks.INDEX, x -> x.twin(0, 4, turned));
        }
    }

    private static void noTwin(Checks c, int r, int other, boolean turned) {
        c.refused(Make::livedLong, "twin(" + r + ", " + other + ", " + turned + ")", Checks.INDEX,
                x -> x.twin(r, other, turned));
    }
}
