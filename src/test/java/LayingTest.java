/** Promises 17 to 19 and 23: layings. */
final class LayingTest {
    private static final int[] WRONG_LENGTHS = {-1, 201, 202, 256, Integer.MIN_VALUE, Integer.MAX_VALUE};

    private LayingTest() {
    }

    // ---- promise 17

    @Says({"Tells the fewest layings for a length, however many setting 0 allows.",
        "Layings are made one behind the other, from 0 on: a forward one leads on by the length of its span, one back "
            + "leads back by it."})
    static void promise17_fewest(Checks c) {
        OddRulers x = Make.two();
        int[][] want = {{0, 0}, {1, 2}, {2, 1}, {3, 1}, {11, 2}, {17, 2}, {40, 4}, {199, 17}, {200, 17}};
        for (int layings = 1; layings <= 6; layings++) {
            x.set(0, layings);
            for (int[] a : want) {
                c.due("fewest(" + a[0] + ", 0)", x.fewest(a[0], 0), a[1]);
                c.due("fewest(" + a[0] + ", 1)", x.fewest(a[0], 1), a[1]);
            }
        }
        x.set(1, 10);
        c.due("beyond the range, length by length", x.fewest(200, 0), 17);
        c.due("beyond the range, by sets", x.fewest(200, 1), 17);
        c.unchanged(Make::livedLong, "fewest(200, 0)", y -> y.fewest(200, 0));
        c.unchanged(Make::livedLong, "fewest(200, 1)", y -> y.fewest(200, 1));
    }

    @Says({"`t`: 0 to 200: the length", "Returns how many, 0 for the length 0 (the same for both ways);"})
    static void promise17_leastAndGreatest(Checks c) {
        for (int way = 0; way < 2; way++) {
            c.due("0 without rulers", new OddRulers().fewest(0, way), 0);
            c.due("0 with rulers", Make.four().fewest(0, way), 0);
            c.due("200 by 2", Make.rulers(Make.row(2)).fewest(200, way), 100);
            c.due("200 by 2 and 1", Make.rulers(Make.row(2, 1)).fewest(200, way), 100);
            c.due("199 by 2 and 1", Make.rulers(Make.row(2, 1)).fewest(199, way), 100);
            c.due("200 by 40", Make.rulers(Make.row(40)).fewest(200, way), 5);
            c.due("40 by 40", Make.rulers(Make.row(40)).fewest(40, way), 1);
        }
    }

    @Says("NONE if it cannot be laid at all.")
    static void promise17_none(Checks c) {
        for (int way = 0; way < 2; way++) {
            c.due("1 without rulers", new OddRulers().fewest(1, way), OddRulers.NONE);
            c.due("200 without rulers", new OddRulers().fewest(200, way), OddRulers.NONE);
            c.due("1 by 2", Make.rulers(Make.row(2)).fewest(1, way), OddRulers.NONE);
            c.due("199 by 2", Make.rulers(Make.row(2)).fewest(199, way), OddRulers.NONE);
            c.due("200 by 39", Make.rulers(Make.row(39)).fewest(200, way), OddRulers.NONE);
            c.due("195 by 39", Make.rulers(Make.row(39)).fewest(195, way), 5);
        }
    }

    @Says({"`way`: 0: told length by length, each one from those that are reached already; 1: told by sets of lengths, "
        + "all that can be laid by one laying more at once",
        "A length can be laid at all if layings can end at it, however many."})
    static void promise17_bothWays(Checks c) {
        int[][][] all = {{{40}, {39}}, {{40}, {27}}, {{12, 4, 9}, {7, 2}}, {{2}}, {{39}, {26}}, {{40, 1}}, {{33, 32}},
            {Make.fullRow(40), {40}}, {}, {{36}, {30}, {20}, {15}}};
        for (int[][] rulers : all) {
            OddRulers x = Make.rulers(rulers);
            Model.Lengths model = new Model.Lengths(spanLengths(x));
            OddRulers y = Make.rulers(rulers);
            for (int t = 0; t <= 200; t++) {
                c.due("fewest(" + t + ", 0)", x.fewest(t, 0), model.fewest(t));
                c.due("fewest(" + t + ", 1)", y.fewest(t, 1), model.fewest(t));
            }
        }
    }

    private static int[] spanLengths(OddRulers x) {
        boolean[] found = new boolean[41];
        for (int r = 0; r < x.about(0); r++) {
            String row = Picture.row(x, r);
            for (int low = 0; low < row.length(); low++) {
                for (int high = low + 1; high < row.length(); high++) {
                    found[high - low] |= row.charAt(low) == '|' && row.charAt(high) == '|';
                }
            }
        }
        return java.util.stream.IntStream.range(1, 41).filter(d -> found[d]).toArray();
    }

    @Says("Throws `IllegalArgumentException` if t or way is out of range")
    static void promise17_wrong(Checks c) {
        for (int t : WRONG_LENGTHS) {
            for (int way = -1; way <= 2; way++) {
                int w = way;
                c.refused(Make::livedLong, "fewest(" + t + ", " + w + ")", Checks.ARGUMENT, x -> x.fewest(t, w));
            }
        }
        for (int way : new int[] {-1, 2, 3, Integer.MIN_VALUE, Integer.MAX_VALUE}) {
            c.refused(OddRulers::new, "fewest(0, " + way + ") first", Checks.ARGUMENT, x -> x.fewest(0, way));
            c.refused(Make::livedLong, "fewest(0, " + way + ")", Checks.ARGUMENT, x -> x.fewest(0, way));
            c.refused(Make::livedLong, "fewest(200, " + way + ")", Checks.ARGUMENT, x -> x.fewest(200, way));
        }
    }

    // ---- promise 18

    @Says({"Tells how a length is laid by the fewest layings:", "`k`: which laying, from 0", "Returns that number;",
        "`what`: 0: its ruler; 1: its span; 2: 1 if it is forward, otherwise 0; 3: where it ends"})
    static void promise18_laying(Checks c) {
        OddRulers x = Make.two();
        rows(c, x, 1, new int[][] {{0, 0, 1, 4}, {0, 5, 0, 1}});
        rows(c, x, 2, new int[][] {{1, 0, 1, 2}});
        rows(c, x, 3, new int[][] {{0, 5, 1, 3}});
        rows(c, x, 11, new int[][] {{0, 0, 1, 4}, {1, 1, 1, 11}});
        rows(c, x, 17, new int[][] {{0, 1, 1, 9}, {0, 4, 1, 17}});
        rows(c, x, 40, new int[][] {{0, 0, 1, 4}, {0, 2, 1, 16}, {0, 2, 1, 28}, {0, 2, 1, 40}});
        rows(c, Make.set(1, 10, Make.row(12, 4, 9), Make.row(7, 2)), 17, new int[][] {{0, 1, 1, 9}, {0, 4, 1, 17}});
        c.unchanged(Make::livedLong, "laying(200, 3, 3)", y -> y.laying(200, 3, 3));
    }

    @Says("of all such rows of layings the one whose first laying has the lowest ruler,")
    static void promise18_lowestRuler(Checks c) {
        rows(c, Make.rulers(Make.row(5), Make.row(5)), 5, new int[][] {{0, 0, 1, 5}});
        rows(c, Make.rulers(Make.row(10, 5), Make.row(5)), 5, new int[][] {{0, 0, 1, 5}});
        rows(c, Make.rulers(Make.row(30), Make.row(10, 5), Make.row(5)), 5, new int[][] {{1, 0, 1, 5}});
        rows(c, Make.rulers(Make.row(3), Make.row(40), Make.row(39), Make.row(2, 1)), 1, new int[][] {{3, 0, 1, 1}});
        // 30 and then 5 back, or 5 and then 20, or 20 and then 5: ruler 0 is first.
        rows(c, Make.rulers(Make.row(20), Make.row(30), Make.row(5)), 25, new int[][] {{0, 0, 1, 20}, {2, 0, 1, 25}});
    }

    @Says("of several the lowest span,")
    static void promise18_lowestSpan(Checks c) {
        rows(c, Make.rulers(Make.row(3, 1, 2)), 1, new int[][] {{0, 0, 1, 1}});
        rows(c, Make.rulers(Make.row(5), Make.row(40, 39)), 1, new int[][] {{1, 2, 1, 1}});
        // The spans 0 to 5 and 5 to 10 are alike; of these the lower one is told.
        rows(c, Make.rulers(Make.row(10, 5)), 15, new int[][] {{0, 0, 1, 5}, {0, 1, 1, 15}});
        rows(c, Make.rulers(Make.row(9, 2, 7)), 4, new int[][] {{0, 0, 1, 2}, {0, 0, 1, 4}});
        rows(c, Make.rulers(Make.row(9, 2, 7)), 16, new int[][] {{0, 1, 1, 7}, {0, 2, 1, 16}});
    }

    @Says({"of several of those the one forward;", "likewise for each next one."})
    static void promise18_forwardFirst(Checks c) {
        // Behind 40, 10 forward and 9 back leads to 41, and so does 10 back and 11 forward.
        rows(c, Make.rulers(Make.row(40), Make.row(10), Make.row(11), Make.row(9)), 41,
                new int[][] {{0, 0, 1, 40}, {1, 0, 1, 50}, {3, 0, 0, 41}});
        rows(c, Make.rulers(Make.row(40), Make.row(11), Make.row(10), Make.row(9)), 41,
                new int[][] {{0, 0, 1, 40}, {1, 0, 1, 51}, {2, 0, 0, 41}});
    }

    @Says("Each one has to end at 0 to 200.")
    static void promise18_eachEndsAt0To200(Checks c) {
        OddRulers x = Make.rulers(Make.row(40), Make.row(39));
        int[] ends = {40, 80, 120, 160, 200, 161, 122, 162, 123, 163, 124, 85, 46, 7};
        for (int k = 0; k < ends.length; k++) {
            c.due("never beyond 200: " + k, x.laying(7, k, 3), ends[k]);
        }
        OddRulers y = Make.rulers(Make.row(39), Make.row(40));
        int[] others = {40, 1, 41, 2, 42, 3, 43, 4, 44, 5, 45, 6, 46, 7};
        for (int k = 0; k < others.length; k++) {
            c.due("never below 0: " + k, y.laying(7, k, 3), others[k]);
        }
    }

    @Says("NONE if there are not so many layings, or the length cannot be laid at all.")
    static void promise18_none(Checks c) {
        OddRulers x = Make.rulers(Make.row(6));
        for (int what = 0; what < 4; what++) {
            c.due("the second of two", x.laying(12, 1, what) != OddRulers.NONE, true);
            c.due("a third of two", x.laying(12, 2, what), OddRulers.NONE);
            c.due("a far one of two", x.laying(12, Integer.MAX_VALUE, what), OddRulers.NONE);
            c.due("7 cannot be laid at all", x.laying(7, 0, what), OddRulers.NONE);
            c.due("nor by far more", x.laying(7, Integer.MAX_VALUE, what), OddRulers.NONE);
            c.due("none without rulers", new OddRulers().laying(3, 0, what), OddRulers.NONE);
            c.due("none for 0", x.laying(0, 0, what), OddRulers.NONE);
            c.due("none for 0 without rulers", new OddRulers().laying(0, 0, what), OddRulers.NONE);
        }
    }

    @Says("`t`: 0 to 200: the length")
    static void promise18_leastAndGreatest(Checks c) {
        OddRulers x = Make.rulers(Make.row(2));
        c.due("the first of 200", x.laying(200, 0, 3), 2);
        c.due("the hundredth of 200", x.laying(200, 99, 3), 200);
        c.due("no more of 200", x.laying(200, 100, 3), OddRulers.NONE);
        rows(c, Make.rulers(Make.row(40)), 200,
                new int[][] {{0, 0, 1, 40}, {0, 0, 1, 80}, {0, 0, 1, 120}, {0, 0, 1, 160}, {0, 0, 1, 200}});
        rows(c, Make.rulers(Make.row(40)), 0, new int[0][]);
        OddRulers full = Make.rulers(Make.row(40), Make.fullRow(40));
        rows(c, full, 39, new int[][] {{1, 38, 1, 39}});
        // The last span of all is 39 to 40; of 1 the lowest is the first one.
        rows(c, full, 1, new int[][] {{1, 0, 1, 1}});
        rows(c, Make.rulers(Make.row(40, 1, 39)), 38, new int[][] {{0, 3, 1, 38}});
    }

    private static void rows(Checks c, OddRulers x, int t, int[][] want) {
        for (int k = 0; k < want.length; k++) {
            for (int what = 0; what < 4; what++) {
                c.due("laying(" + t + ", " + k + ", " + what + ")", x.laying(t, k, what), want[k][what]);
            }
        }
        for (int what = 0; what < 4; what++) {
            c.due("laying(" + t + ", " + want.length + ", " + what + ")", x.laying(t, want.length, what),
                    OddRulers.NONE);
        }
    }

    @Says("Throws `IllegalArgumentException` if t or what is out of range, or k is negative")
    static void promise18_wrong(Checks c) {
        for (int t : WRONG_LENGTHS) {
            c.refused(Make::livedLong, "laying(" + t + ", 0, 0)", Checks.ARGUMENT, x -> x.laying(t, 0, 0));
            c.refused(OddRulers::new, "laying(" + t + ", 0, 0) first", Checks.ARGUMENT, x -> x.laying(t, 0, 0));
        }
        for (int k : new int[] {-1, -2, Integer.MIN_VALUE}) {
            c.refused(Make::livedLong, "laying(6, " + k + ", 0)", Checks.ARGUMENT, x -> x.laying(6, k, 0));
            c.refused(Make::livedLong, "laying(0, " + k + ", 0)", Checks.ARGUMENT, x -> x.laying(0, k, 0));
            c.refused(OddRulers::new, "laying(7, " + k + ", 0) first", Checks.ARGUMENT, x -> x.laying(7, k, 0));
        }
        for (int what : new int[] {-1, 4, 5, Integer.MIN_VALUE, Integer.MAX_VALUE}) {
            c.refused(Make::livedLong, "laying(6, 0, " + what + ")", Checks.ARGUMENT, x -> x.laying(6, 0, what));
            c.refused(Make::livedLong, "laying(0, 0, " + what + ")", Checks.ARGUMENT, x -> x.laying(0, 0, what));
            c.refused(OddRulers::new, "laying(7, 9, " + what + ") first", Checks.ARGUMENT, x -> x.laying(7, 9, what));
        }
    }

    // ---- promise 19

    @Says({"Tells why a length cannot be laid.", "`t`: 0 to 200",
        "Returns the reason; 0 if it can be laid (the length 0 always can)."})
    static void promise19_why(Checks c) {
        OddRulers x = Make.rulers(Make.row(9, 6));
        int[][] want = {{0, 0}, {1, 2}, {2, 2}, {3, 0}, {12, 0}, {18, 0}, {19, 2}, {21, 3}, {198, 3}, {199, 2}, {200, 2}};
        for (int[] a : want) {
            c.due("why(" + a[0] + ")", x.why(a[0]), a[1]);
        }
        c.due("0 without rulers", new OddRulers().why(0), 0);
        c.due("0 by one laying", Make.set(1, 10, Make.row(40)).why(0), 0);
        c.due("200 by 40", Make.set(5, 10, Make.row(40)).why(200), 0);
        c.due("beyond the range", Make.set(2, 10, Make.row(40)).why(80), 0);
        c.unchanged(Make::livedLong, "why(21)", y -> y.why(21));
    }

    @Says("Why a length t cannot be laid is told by the first of these that is so: 1: there are no rulers;")
    static void promise19_noRulers(Checks c) {
        OddRulers x = new OddRulers();
        for (int t = 1; t <= 200; t++) {
            c.due("why(" + t + ") without rulers", x.why(t), 1);
        }
        OddRulers y = Make.rulers(Make.row(7));
        y.undo();
        c.due("without rulers again", y.why(3), 1);
    }

    @Says("2: the greatest common divisor of the lengths of all spans does not divide t;")
    static void promise19_divisor(Checks c) {
        OddRulers x = Make.rulers(Make.row(40, 20), Make.row(30));
        for (int t = 1; t <= 200; t++) {
            c.due("why(" + t + ") by 10s", x.why(t) == 2, t % 10 != 0);
        }
        c.due("199 by 2", Make.set(6, 150, Make.row(2)).why(199), 2);
        c.due("41 by 40", Make.rulers(Make.row(40)).why(41), 2);
        c.due("1 by 40 and 39, which is laid", Make.rulers(Make.row(40), Make.row(39)).why(1), 0);
    }

    @Says({"3: it can be laid at all, but more layings than setting 0 are needed;",
        "4: it cannot be laid at all."})
    static void promise19_moreLayings(Checks c) {
        for (int layings = 1; layings <= 6; layings++) {
            OddRulers x = Make.set(layings, 10, Make.row(30));
            for (int n = 1; n <= 6; n++) {
                c.due(30 * n + " by " + layings, x.why(30 * n), n <= layings ? 0 : 3);
            }
        }
        // No length that the divisor divides is out of reach: spans of at most 40 have room enough in 0 to 200.
        int[][][] all = {{{40}, {39}}, {{40}, {39}, {38}, {37}}, {{2, 1}}, {{36}, {30}, {20}, {15}}, {{39}, {26}}};
        for (int[][] rulers : all) {
            OddRulers x = Make.rulers(rulers);
            int divisor = x.about(4);
            for (int t = 1; t <= 200; t++) {
                int why = x.why(t);
                c.due("why(" + t + ") is told", why == 2, t % divisor != 0);
                c.due("why(" + t + ") is never 4", why == 4, false);
            }
        }
    }

    @Says("Throws `IllegalArgumentException` if t is out of range")
    static void promise19_wrong(Checks c) {
        for (int t : WRONG_LENGTHS) {
            c.refused(OddRulers::new, "why(" + t + ") first", Checks.ARGUMENT, x -> x.why(t));
            c.refused(Make::livedLong, "why(" + t + ")", Checks.ARGUMENT, x -> x.why(t));
        }
    }

    // ---- promise 23

    @Says({"Finds the least setting 0 for the whole range.",
        "Returns the fewest layings with which each length of the range could be laid;"})
    static void promise23_layings(Checks c) {
        for (int layings = 1; layings <= 6; layings++) {
            c.due("whatever setting 0 is", Make.set(layings, 40, Make.row(12, 4, 9), Make.row(7, 2)).layings(), 4);
        }
        c.due("1", Make.set(2, 10, Make.fullRow(10)).layings(), 1);
        c.due("2", Make.set(2, 11, Make.fullRow(10)).layings(), 2);
        c.due("more than setting 0 can be", Make.set(2, 150, Make.row(12, 4, 9), Make.row(7, 2)).layings(), 13);
        c.due("150 by 2 and 1", Make.set(6, 150, Make.row(2, 1)).layings(), 75);
        c.unchanged(Make::livedLong, "layings()", OddRulers::layings);
    }

    @Says("The range is the lengths 1 to setting 1.")
    static void promise23_endsOfTheRange(Checks c) {
        c.due("10 takes most", Make.set(2, 10, Make.row(40), Make.row(39)).layings(), 20);
        c.due("11 takes more", Make.set(2, 11, Make.row(40), Make.row(39)).layings(), 22);
        c.due("1 takes most", Make.set(2, 10, Make.row(12, 2, 4, 6, 9)).layings(), 2);
        c.due("149 without 150", Make.set(2, 149, Make.row(9, 2, 4)).layings(), 17);
        c.due("150 takes most", Make.set(2, 150, Make.row(9, 2, 4)).layings(), 18);
    }

    @Says("NONE if some cannot be laid at all.")
    static void promise23_none(Checks c) {
        c.due("without rulers", new OddRulers().layings(), OddRulers.NONE);
        c.due("2 alone", Make.set(6, 10, Make.row(2)).layings(), OddRulers.NONE);
        c.due("40 and 38", Make.set(6, 10, Make.row(40), Make.row(38)).layings(), OddRulers.NONE);
        c.due("40 and 39 at last", Make.set(6, 10, Make.row(40), Make.row(38), Make.row(39)).layings() > 0, true);
    }
}
