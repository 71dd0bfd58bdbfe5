/** Promises 6 to 10: what there is. */
final class LookTest {
    private LookTest() {
    }

    // ---- promise 6

    @Says({"Returns a number.", "Returns that number.", "`what`: 0: the rulers; 1: the marks of all rulers; 2: the spans"})
    static void promise06_about(Checks c) {
        OddRulers x = Make.two();
        int[] want = {2, 7, 9, 8, 1, 22, 2, 2, 40};
        for (int what = 0; what <= 8; what++) {
            c.due("about(" + what + ")", x.about(what), want[what]);
            int number = what;
            c.unchanged(Make::livedLong, "about(" + what + ")", y -> y.about(number));
        }
    }

    @Says("There are at most 4 rulers, numbered from 0.")
    static void promise06_mostOfAll(Checks c) {
        int[] full = Make.fullRow(40);
        OddRulers x = Make.set(6, 150, full, full, full, full);
        int[] want = {4, 164, 3280, 40, 1, 150, 0, 6, 150};
        for (int what = 0; what <= 8; what++) {
            c.due("about(" + what + ")", x.about(what), want[what]);
        }
    }

    @Says("0: the rulers; 1: the marks of all rulers; 2: the spans of all rulers;")
    static void promise06_leastOfAll(Checks c) {
        OddRulers x = Make.set(1, 10, Make.row(2));
        int[] want = {1, 2, 1, 1, 2, 1, 2, 1, 10};
        for (int what = 0; what <= 8; what++) {
            c.due("about(" + what + ")", x.about(what), want[what]);
        }
    }

    @Says("3: the unlike lengths that these have, how many;")
    static void promise06_unlikeLengths(Checks c) {
        c.due("none", new OddRulers().about(3), 0);
        c.due("two alike", Make.rulers(Make.row(5), Make.row(5)).about(3), 1);
        c.due("1, 1 and 2", Make.rulers(Make.row(2, 1)).about(3), 2);
        c.due("alike in two rulers", Make.rulers(Make.row(5, 2), Make.row(3), Make.row(2)).about(3), 3);
        c.due("unlike ones", Make.rulers(Make.row(5, 2), Make.row(40)).about(3), 4);
    }

    @Says("4: the greatest common divisor of these, 0 without rulers;")
    static void promise06_divisor(Checks c) {
        c.due("without rulers", new OddRulers().about(4), 0);
        c.due("2 alone", Make.rulers(Make.row(2)).about(4), 2);
        c.due("40 alone", Make.rulers(Make.row(40)).about(4), 40);
        c.due("40 twice", Make.rulers(Make.row(40), Make.row(40)).about(4), 40);
        c.due("40 and 39", Make.rulers(Make.row(40), Make.row(39)).about(4), 1);
        c.due("40 and 24", Make.rulers(Make.row(40), Make.row(24)).about(4), 8);
        c.due("9 with a mark at 6", Make.rulers(Make.row(9, 6)).about(4), 3);
        c.due("40 with a mark at 20", Make.rulers(Make.row(40, 20)).about(4), 20);
        c.due("2 with a mark at 1", Make.rulers(Make.row(2, 1)).about(4), 1);
        c.due("6, 10 and 15", Make.rulers(Make.row(6), Make.row(10), Make.row(15)).about(4), 1);
        c.due("12, 18 and 30", Make.rulers(Make.row(12), Make.row(18), Make.row(30)).about(4), 6);
        OddRulers x = Make.rulers(Make.row(6));
        x.undo();
        c.due("without rulers again", x.about(4), 0);
    }

    @Says({"The range is the lengths 1 to setting 1.", "5: the lengths of the range that can be laid, how many;"})
    static void promise06_endsOfTheRange(Checks c) {
        c.due("none, and 0 is not in it", new OddRulers().about(5), 0);
        c.due("1 and 2", Make.set(1, 10, Make.row(2, 1)).about(5), 2);
        c.due("10 of 10", Make.set(1, 10, Make.row(10)).about(5), 1);
        c.due("11 of 10", Make.set(1, 10, Make.row(11)).about(5), 0);
        c.due("11 of 11", Make.set(1, 11, Make.row(11)).about(5), 1);
        c.due("30 to 150", Make.set(5, 150, Make.row(30)).about(5), 5);
        c.due("30 to 120", Make.set(5, 149, Make.row(30)).about(5), 4);
        c.due("all of 10", Make.set(6, 10, Make.row(3, 1)).about(5), 10);
    }

    @Says("A length can be laid if layings can end at it, at most as many as setting 0.")
    static void promise06_asManyAsSetting0(Checks c) {
        for (int layings = 1; layings <= 6; layings++) {
            c.due("10 by " + layings, Make.set(layings, 150, Make.row(10)).about(5), layings);
            c.due("40 and 39 by " + layings, Make.set(layings, 10, Make.row(40), Make.row(39)).about(5), layings / 2);
        }
        c.due("40 by 6, up to 150", Make.set(6, 150, Make.row(40)).about(5), 3);
    }

    @Says("A laying is a span of any ruler, forward or back.")
    static void promise06_anyRuler(Checks c) {
        OddRulers x = Make.set(1, 40, Make.row(5), Make.row(8), Make.row(16), Make.row(40));
        c.due("one of each", x.about(5), 4);
        x.set(0, 2);
        // Forward 10, 13, 16, 21, 24, 32, then back 3, 8, 11, 24, 32 and 35, besides 5, 8, 16 and 40.
        c.due("two of each", x.about(5), 12);
    }

    @Says("6: the gaps;")
    static void promise06_gaps(Checks c) {
        c.due("all of the range", new OddRulers().about(6), 1);
        c.due("none", Make.set(6, 10, Make.row(3, 1)).about(6), 0);
        c.due("six below 10 to 60", Make.set(6, 60, Make.row(10)).about(6), 6);
        c.due("the last one ends with the range", Make.set(6, 59, Make.row(10)).about(6), 6);
        c.due("the last one begins there", Make.set(6, 61, Make.row(10)).about(6), 7);
        c.due("one below and one above", Make.set(1, 60, Make.row(10)).about(6), 2);
        c.due("at 150", Make.set(5, 150, Make.row(31), Make.row(25)).about(6), 25);
        c.due("without 150", Make.set(5, 149, Make.row(31), Make.row(25)).about(6), 24);
    }

    @Says("7 and 8: the settings 0 and 1")
    static void promise06_settings(Checks c) {
        for (int v = 1; v <= 6; v++) {
            c.due("setting 0", Make.set(v, 150).about(7), v);
        }
        for (int v = 10; v <= 150; v++) {
            c.due("setting 1", Make.set(1, v).about(8), v);
        }
    }

    @Says("Throws `IllegalArgumentException` if what is not 0 to 8")
    static void promise06_wrong(Checks c) {
        for (int what : new int[] {-1, 9, 10, Integer.MIN_VALUE, Integer.MAX_VALUE}) {
            c.refused(OddRulers::new, "about(" + what + ") first", Checks.ARGUMENT, x -> x.about(what));
            c.refused(Make::livedLong, "about(" + what + ")", Checks.ARGUMENT, x -> x.about(what));
        }
    }

    // ---- promise 7

    @Says({"Returns a number of a ruler.", "Returns that number.", "`r`: ruler",
        "`what`: 0: its length; 1: its marks, how many; 2: its spans;"})
    static void promise07_rulerOf(Checks c) {
        OddRulers x = Make.rulers(Make.row(12, 4, 9), Make.row(6, 1, 4), Make.row(2, 1), Make.row(40));
        int[][] want = {{12, 4, 6, 6, 3, 1}, {6, 4, 6, 6, 1, 7}, {2, 3, 3, 2, 1, 3}, {40, 2, 1, 1, 40, 1}};
        for (int r = 0; r < 4; r++) {
            for (int what = 0; what < 6; what++) {
                c.due("rulerOf(" + r + ", " + what + ")", x.rulerOf(r, what), want[r][what]);
            }
        }
    }

    @Says("A ruler has a length n, 2 to 40, and marks at some of the places 0 to n")
    static void promise07_leastAndGreatest(Checks c) {
        OddRulers x = Make.rulers(Make.row(2), Make.fullRow(40), Make.fullRow(2));
        int[][] want = {{2, 2, 1, 1, 2, 1}, {40, 41, 820, 40, 1, 41}, {2, 3, 3, 2, 1, 3}};
        for (int r = 0; r < 3; r++) {
            for (int what = 0; what < 6; what++) {
                c.due("rulerOf(" + r + ", " + what + ")", x.rulerOf(r, what), want[r][what]);
            }
        }
    }

    @Says("3: the unlike lengths that these have, how many;")
    static void promise07_unlikeLengths(Checks c) {
        c.due("one", Make.rulers(Make.row(40), Make.row(39)).rulerOf(0, 3), 1);
        c.due("of the ruler alone", Make.rulers(Make.row(6, 3), Make.row(40, 1)).rulerOf(0, 3), 2);
        c.due("of the other alone", Make.rulers(Make.row(6, 3), Make.row(40, 1)).rulerOf(1, 3), 3);
    }

    @Says("4: the length that most of its spans have, of several the least;")
    static void promise07_commonest(Checks c) {
        c.due("three of 3", Make.rulers(Make.row(10, 3, 6, 9)).rulerOf(0, 4), 3);
        c.due("two of 2 and of 7", Make.rulers(Make.row(9, 2, 7)).rulerOf(0, 4), 2);
        c.due("one of each", Make.rulers(Make.row(40, 39)).rulerOf(0, 4), 1);
        c.due("one of each, 3 the least", Make.rulers(Make.row(12, 4, 9)).rulerOf(0, 4), 3);
        c.due("two of 20", Make.rulers(Make.row(40, 20)).rulerOf(0, 4), 20);
        c.due("one of 40", Make.rulers(Make.row(40)).rulerOf(0, 4), 40);
        c.due("of the ruler alone", Make.rulers(Make.row(9, 2), Make.row(9), Make.row(9)).rulerOf(0, 4), 2);
    }

    @Says("5: the least length, 1 or more, that none of its spans has")
    static void promise07_leastMissing(Checks c) {
        c.due("1", Make.rulers(Make.row(40, 20)).rulerOf(0, 5), 1);
        c.due("2", Make.rulers(Make.row(40, 39)).rulerOf(0, 5), 2);
        c.due("5, between others", Make.rulers(Make.row(7, 1, 3)).rulerOf(0, 5), 5);
        c.due("one more than the length", Make.rulers(Make.row(6, 1, 4)).rulerOf(0, 5), 7);
        c.due("41", Make.rulers(Make.fullRow(40)).rulerOf(0, 5), 41);
        c.due("40", Make.rulers(Make.fullRow(39)).rulerOf(0, 5), 40);
        c.due("of the ruler alone", Make.rulers(Make.row(2), Make.row(2, 1)).rulerOf(0, 5), 1);
    }

    @Says("Throws `IndexOutOfBoundsException` if there is no such ruler")
    static void promise07_noRuler(Checks c) {
        c.refused(Make::livedLong, "rulerOf(2, 0)", Checks.INDEX, x -> x.rulerOf(2, 0));
        c.refused(Make::four, "rulerOf(4, 0)", Checks.INDEX, x -> x.rulerOf(4, 0));
        for (int r : Make.FAR_OUT) {
            c.refused(Make::livedLong, "rulerOf(" + r + ", 0)", Checks.INDEX, x -> x.rulerOf(r, 0));
        }
    }

    @Says("Throws `IllegalArgumentException` if what is not 0 to 5")
    static void promise07_wrong(Checks c) {
        c.refused(Make::livedLong, "rulerOf(1, 6)", Checks.ARGUMENT, x -> x.rulerOf(1, 6));
        for (int what : Make.FAR_OUT) {
            c.refused(Make::livedLong, "rulerOf(1, " + what + ")", Checks.ARGUMENT, x -> x.rulerOf(1, what));
        }
    }

    @Says("If several exceptions apply to a call, the one that its description names first is thrown.")
    static void promise07_wrongTwice(Checks c) {
        c.refused(Make::livedLong, "rulerOf(2, 6)", Checks.INDEX, x -> x.rulerOf(2, 6));
        c.refused(Make::livedLong, "rulerOf(-1, -1)", Checks.INDEX, x -> x.rulerOf(-1, -1));
        c.refused(OddRulers::new, "rulerOf(0, 6)", Checks.INDEX, x -> x.rulerOf(0, 6));
    }

    // ---- promise 8

    @Says({"Tells whether there is a mark.", "Returns 1 if there is one, otherwise 0.", "`r`: ruler", "`p`: place"})
    static void promise08_isMarked(Checks c) {
        OddRulers x = Make.rulers(Make.row(5, 2), Make.row(40, 39));
        c.due("ruler 0", Picture.row(x, 0), "|.|..|");
        c.due("ruler 1", Picture.row(x, 1), "|" + ".".repeat(38) + "||");
        c.unchanged(Make::livedLong, "isMarked(0, 4)", y -> y.isMarked(0, 4));
    }

    @Says("always at 0 and n (its ends; the others are inner marks)")
    static void promise08_ends(Checks c) {
        for (int n = 2; n <= 40; n++) {
            OddRulers x = Make.rulers(Make.row(n));
            c.due("the place 0", x.isMarked(0, 0), 1);
            c.due("the place 1", x.isMarked(0, 1), 0);
            c.due("the place " + (n - 1), x.isMarked(0, n - 1), 0);
            c.due("the place " + n, x.isMarked(0, n), 1);
        }
    }

    @Says("Throws `IndexOutOfBoundsException` if there is no such ruler or place")
    static void promise08_noPlace(Checks c) {
        for (int[] a : new int[][] {{0, -1}, {0, 13}, {1, -1}, {1, 8}, {2, 0}, {0, 64}, {0, 68}, {0, 4 - 64}}) {
            c.refused(Make::livedLong, "isMarked(" + a[0] + ", " + a[1] + ")", Checks.INDEX,
                    x -> x.isMarked(a[0], a[1]));
        }
        for (int far : Make.FAR_OUT) {
            c.refused(Make::livedLong, "isMarked(0, " + far + ")", Checks.INDEX, x -> x.isMarked(0, far));
            c.refused(Make::livedLong, "isMarked(" + far + ", 0)", Checks.INDEX, x -> x.isMarked(far, 0));
            c.refused(Make::livedLong, "isMarked(" + far + ", -1)", Checks.INDEX, x -> x.isMarked(far, -1));
        }
        c.refused(Make::four, "isMarked(1, 41)", Checks.INDEX, x -> x.isMarked(1, 41));
        c.refused(Make::four, "isMarked(4, 0)", Checks.INDEX, x -> x.isMarked(4, 0));
        OddRulers x = Make.two();
        x.cut(0, 10);
        c.due("a place that was cut off", Checks.answer(x, y -> y.isMarked(0, 11)), Checks.INDEX);
    }

    // ---- promise 9

    @Says({"Returns a number of a span.", "Returns that number.", "`r`: ruler", "`k`: span",
        "`what`: 0: its lower mark; 1: its greater mark; 2: its length;",
        "A span of a ruler is two marks of it; its length is how far apart these are."})
    static void promise09_span(Checks c) {
        int[][] want = {{0, 4, 4, 1}, {0, 9, 9, 1}, {0, 12, 12, 1}, {4, 9, 5, 2}, {4, 12, 8, 1}, {9, 12, 3, 1}};
        OddRulers x = Make.two();
        for (int k = 0; k < 6; k++) {
            for (int what = 0; what < 4; what++) {
                c.due("span(0, " + k + ", " + what + ")", x.span(0, k, what), want[k][what]);
            }
        }
        c.unchanged(Make::livedLong, "span(0, 2, 3)", y -> y.span(0, 2, 3));
    }

    @Says("Spans are numbered from 0, by the lower mark, of one lower mark by the greater one.")
    static void promise09_allOfAFullRuler(Checks c) {
        int k = 0;
        for (int low = 0; low <= 40; low++) {
            OddRulers x = Make.rulers(Make.fullRow(40));
            for (int high = low + 1; high <= 40; high++) {
                c.due("lower mark of " + k, x.span(0, k, 0), low);
                c.due("greater mark of " + k, x.span(0, k, 1), high);
                c.due("length of " + k, x.span(0, k, 2), high - low);
                c.due("spans like " + k, x.span(0, k, 3), 41 - (high - low));
                k++;
            }
        }
        c.due("spans", k, 820);
    }

    @Says("3: the spans of all rulers that have this length, how many")
    static void promise09_alike(Checks c) {
        c.due("itself alone", Make.rulers(Make.row(40)).span(0, 0, 3), 1);
        c.due("four", Make.rulers(Make.row(2), Make.row(2), Make.row(2), Make.row(2)).span(3, 0, 3), 4);
        OddRulers x = Make.rulers(Make.row(10, 5), Make.row(5), Make.row(40, 5));
        c.due("5 in three rulers", x.span(1, 0, 3), 4);
        c.due("10 in one", x.span(0, 1, 3), 1);
        c.due("35 in one", x.span(2, 2, 3), 1);
    }

    @Says("Throws `IndexOutOfBoundsException` if there is no such ruler or span")
    static void promise09_noSpan(Checks c) {
        c.due("the last one", Make.two().span(0, 5, 0), 9);
        c.refused(Make::two, "span(0, 6, 0)", Checks.INDEX, x -> x.span(0, 6, 0));
        c.refused(Make::two, "span(0, -1, 0)", Checks.INDEX, x -> x.span(0, -1, 0));
        c.refused(Make::two, "span(1, 3, 0)", Checks.INDEX, x -> x.span(1, 3, 0));
        c.refused(Make::two, "span(2, 0, 0)", Checks.INDEX, x -> x.span(2, 0, 0));
        c.refused(Make::four, "span(4, 0, 0)", Checks.INDEX, x -> x.span(4, 0, 0));
        c.refused(Make::four, "span(1, 1, 0)", Checks.INDEX, x -> x.span(1, 1, 0));
        for (int far : Make.FAR_OUT) {
            c.refused(Make::livedLong, "span(0, " + far + ", 0)", Checks.INDEX, x -> x.span(0, far, 0));
            c.refused(Make::livedLong, "span(" + far + ", 0, 0)", Checks.INDEX, x -> x.span(far, 0, 0));
        }
        OddRulers full = Make.rulers(Make.fullRow(40));
        c.due("the 820th", full.span(0, 819, 0), 39);
        c.due("the 821st", Checks.answer(full, x -> x.span(0, 820, 0)), Checks.INDEX);
        OddRulers x = Make.two();
        x.mark(1, 2, false);
        c.due("one that is gone", Checks.answer(x, y -> y.span(1, 1, 0)), Checks.INDEX);
    }

    @Says("Throws `IllegalArgumentException` if what is not 0 to 3")
    static void promise09_wrong(Checks c) {
        c.refused(Make::livedLong, "span(0, 5, 4)", Checks.ARGUMENT, x -> x.span(0, 5, 4));
        for (int what : Make.FAR_OUT) {
            c.refused(Make::livedLong, "span(0, 5, " + what + ")", Checks.ARGUMENT, x -> x.span(0, 5, what));
        }
    }

    @Says("If several exceptions apply to a call, the one that its description names first is thrown.")
    static void promise09_wrongTwice(Checks c) {
        c.refused(Make::two, "span(0, 6, 4)", Checks.INDEX, x -> x.span(0, 6, 4));
        c.refused(Make::two, "span(0, -1, -1)", Checks.INDEX, x -> x.span(0, -1, -1));
        c.refused(Make::two, "span(2, 0, 4)", Checks.INDEX, x -> x.span(2, 0, 4));
        c.refused(Make::two, "span(-1, -1, -1)", Checks.INDEX, x -> x.span(-1, -1, -1));
    }

    // ---- promise 10

    @Says({"Returns a number of a gap.", "Returns that number.", "`k`: gap",
        "`what`: 0: its least length; 1: its lengths, how many", "Gaps are numbered from 0, from below."})
    static void promise10_gap(Checks c) {
        // Two layings of 10 and 4 end at 4, 6, 8, 10, 14 and 20.
        OddRulers x = Make.set(2, 25, Make.row(10), Make.row(4));
        int[][] want = {{1, 3}, {5, 1}, {7, 1}, {9, 1}, {11, 3}, {15, 5}, {21, 5}};
        for (int k = 0; k < want.length; k++) {
            c.due("gap(" + k + ", 0)", x.gap(k, 0), want[k][0]);
            c.due("gap(" + k + ", 1)", x.gap(k, 1), want[k][1]);
        }
        c.unchanged(Make::livedLong, "gap(0, 0)", y -> y.gap(0, 0));
    }

    @Says({"A gap is a row of lengths of the range, one behind the other, which cannot be laid, as long as it can be.",
        "The range is the lengths 1 to setting 1."})
    static void promise10_endsOfTheRange(Checks c) {
        due(c, new OddRulers(), 0, 1, 40);
        due(c, Make.set(1, 10), 0, 1, 10);
        due(c, Make.set(6, 150), 0, 1, 150);
        due(c, Make.set(1, 10, Make.row(10)), 0, 1, 9);
        due(c, Make.set(1, 11, Make.row(10)), 1, 11, 1);
        due(c, Make.set(1, 12, Make.row(10)), 1, 11, 2);
        due(c, Make.set(1, 10, Make.row(2, 1)), 0, 3, 8);
        // 149 is 4 times 31 and 25, but 150 is 6 times 25.
        due(c, Make.set(5, 150, Make.row(31), Make.row(25)), 24, 150, 1);
    }

    @Says("at most as many as setting 0")
    static void promise10_asManyAsSetting0(Checks c) {
        for (int layings = 1; layings <= 6; layings++) {
            OddRulers x = Make.set(layings, 100, Make.row(10));
            due(c, x, layings, 10 * layings + 1, 100 - 10 * layings);
            due(c, x, layings - 1, 10 * layings - 9, 9);
        }
    }

    private static void due(Checks c, OddRulers x, int k, int least, int lengths) {
        c.due("gap(" + k + ", 0)", x.gap(k, 0), least);
        c.due("gap(" + k + ", 1)", x.gap(k, 1), lengths);
    }

    @Says("Throws `IndexOutOfBoundsException` if there is no such gap")
    static void promise10_noGap(Checks c) {
        c.refused(OddRulers::new, "gap(1, 0)", Checks.INDEX, x -> x.gap(1, 0));
        c.refused(OddRulers::new, "gap(-1, 0)", Checks.INDEX, x -> x.gap(-1, 0));
        c.refused(() -> Make.set(6, 10, Make.row(3, 1)), "gap(0, 0) of none", Checks.INDEX, x -> x.gap(0, 0));
        c.refused(() -> Make.set(1, 10, Make.row(10)), "gap(1, 0), at the range's end", Checks.INDEX, x -> x.gap(1, 0));
        for (int far : Make.FAR_OUT) {
            c.refused(Make::two, "gap(" + far + ", 0)", Checks.INDEX, x -> x.gap(far, 0));
            c.refused(Make::two, "gap(" + far + ", 1)", Checks.INDEX, x -> x.gap(far, 1));
        }
    }

    @Says("Throws `IllegalArgumentException` if what is neither 0 nor 1")
    static void promise10_wrong(Checks c) {
        c.refused(Make::two, "gap(1, 2)", Checks.ARGUMENT, x -> x.gap(1, 2));
        for (int what : Make.FAR_OUT) {
            c.refused(Make::two, "gap(1, " + what + ")", Checks.ARGUMENT, x -> x.gap(1, what));
        }
    }

    @Says("If several exceptions apply to a call, the one that its description names first is thrown.")
    static void promise10_wrongTwice(Checks c) {
        c.refused(Make::two, "gap(2, 2)", Checks.INDEX, x -> x.gap(2, 2));
        c.refused(Make::two, "gap(-1, -1)", Checks.INDEX, x -> x.gap(-1, -1));
        c.refused(() -> Make.set(6, 10, Make.row(3, 1)), "gap(0, 2) of none", Checks.INDEX, x -> x.gap(0, 2));
    }
}
