/** Promises 11 to 16: the actions, and undo. */
final class ActionTest {
    private ActionTest() {
    }

    // ---- promise 11

    @Says({"Adds a ruler, with marks at its ends alone.", "Returns its number.",
        "There are at most 4 rulers, numbered from 0."})
    static void promise11_ruler(Checks c) {
        OddRulers x = new OddRulers();
        int[] lengths = {5, 40, 2, 5};
        for (int r = 0; r < 4; r++) {
            c.due("ruler(" + lengths[r] + ")", x.ruler(lengths[r]), r);
            c.due("ruler " + r, Picture.row(x, r), "|" + ".".repeat(lengths[r] - 1) + "|");
        }
        c.due("rulers", x.about(0), 4);
        c.due("actions", undone(x), 4);
    }

    @Says("`n`: 2 to 40: its length")
    static void promise11_eachLength(Checks c) {
        for (int n = 2; n <= 40; n++) {
            OddRulers x = new OddRulers();
            c.due("ruler(" + n + ")", x.ruler(n), 0);
            c.due("its length", x.rulerOf(0, 0), n);
            c.due("its marks", x.rulerOf(0, 1), 2);
            c.due("its span", x.span(0, 0, 2), n);
        }
    }

    @Says("with marks at its ends alone")
    static void promise11_noOldMarks(Checks c) {
        OddRulers x = Make.rulers(Make.row(9, 3, 5));
        x.undo();
        x.undo();
        x.undo();
        c.due("the number again", x.ruler(7), 0);
        c.due("no marks are left", Picture.row(x, 0), "|......|");
        OddRulers y = Make.rulers(Make.row(9, 3), Make.row(9, 3, 5));
        Make.write(y, "Kr08");
        y.load();
        c.due("ruler(9) behind a load", y.ruler(9), 1);
        c.due("no marks are left either", Picture.row(y, 1), "|........|");
    }

    @Says("Throws `IllegalArgumentException` if n is out of range")
    static void promise11_wrongLength(Checks c) {
        for (int n : new int[] {0, 1, 41, 42, 64, 66}) {
            c.refused(OddRulers::new, "ruler(" + n + ") first", Checks.ARGUMENT, x -> x.ruler(n));
            c.refused(Make::livedLong, "ruler(" + n + ")", Checks.ARGUMENT, x -> x.ruler(n));
        }
        for (int n : Make.FAR_OUT) {
            c.refused(Make::livedLong, "ruler(" + n + ")", Checks.ARGUMENT, x -> x.ruler(n));
        }
    }

    @Says("Throws `IllegalStateException` if there are 4")
    static void promise11_aFifth(Checks c) {
        for (int n : new int[] {2, 17, 40}) {
            c.refused(Make::four, "a fifth, ruler(" + n + ")", Checks.STATE, x -> x.ruler(n));
        }
        OddRulers x = Make.rulers(Make.row(5), Make.row(5), Make.row(5));
        c.due("the fourth", x.ruler(5), 3);
        x.undo();
        c.due("the fourth again", x.ruler(6), 3);
    }

    @Says("If several exceptions apply to a call, the one that its description names first is thrown.")
    static void promise11_wrongTwice(Checks c) {
        for (int n : new int[] {-1, 1, 41, Integer.MIN_VALUE, Integer.MAX_VALUE}) {
            c.refused(Make::four, "a fifth, ruler(" + n + ")", Checks.ARGUMENT, x -> x.ruler(n));
        }
    }

    // ---- promise 12

    @Says({"Puts a mark, or takes it away.", "Returns the marks of the ruler then.", "`r`: ruler", "`p`: place",
        "`on`: whether there is a mark then"})
    static void promise12_mark(Checks c) {
        OddRulers x = Make.rulers(Make.row(6), Make.row(40));
        c.due("mark(0, 4, true)", x.mark(0, 4, true), 3);
        c.due("mark(0, 1, true)", x.mark(0, 1, true), 4);
        c.due("mark(0, 5, true)", x.mark(0, 5, true), 5);
        c.due("ruler 0", Picture.row(x, 0), "||..|||");
        c.due("mark(0, 4, false)", x.mark(0, 4, false), 4);
        c.due("mark(0, 1, false)", x.mark(0, 1, false), 3);
        c.due("ruler 0 then", Picture.row(x, 0), "|....||");
        c.due("mark(1, 39, true)", x.mark(1, 39, true), 3);
        c.due("ruler 1", Picture.row(x, 1), "|" + ".".repeat(38) + "||");
    }

    @Says("also if nothing becomes different")
    static void promise12_nothingDifferent(Checks c) {
        OddRulers x = Make.rulers(Make.row(6, 4));
        c.due("put again", x.mark(0, 4, true), 3);
        c.due("taken away where none is", x.mark(0, 3, false), 3);
        c.due("put at an end", x.mark(0, 0, true), 3);
        c.due("put at the other end", x.mark(0, 6, true), 3);
        c.due("ruler 0", Picture.row(x, 0), "|...|.|");
        c.due("actions", undone(x), 6);
    }

    @Says("Throws `IndexOutOfBoundsException` if there is no such ruler or place")
    static void promise12_noPlace(Checks c) {
        for (int[] a : new int[][] {{0, -1}, {0, 13}, {1, -1}, {1, 8}, {0, 64}, {0, 65}, {0, 3 - 64}, {2, 1}}) {
            refusedBoth(c, a[0], a[1]);
        }
        for (int far : Make.FAR_OUT) {
            refusedBoth(c, 0, far);
            refusedBoth(c, far, 1);
            refusedBoth(c, far, far);
        }
        c.refused(Make::four, "mark(1, 41, true)", Checks.INDEX, x -> x.mark(1, 41, true));
        c.refused(Make::four, "mark(4, 1, true)", Checks.INDEX, x -> x.mark(4, 1, true));
    }

    private static void refusedBoth(Checks c, int r, int p) {
        c.refused(Make::livedLong, "mark(" + r + ", " + p + ", true)", Checks.INDEX, x -> x.mark(r, p, true));
        c.refused(Make::livedLong, "mark(" + r + ", " + p + ", false)", Checks.INDEX, x -> x.mark(r, p, false));
    }

    @Says("Throws `IllegalStateException` if on is false, and p is an end")
    static void promise12_anEnd(Checks c) {
        for (int[] a : new int[][] {{0, 0}, {0, 12}, {1, 0}, {1, 7}}) {
            c.refused(Make::livedLong, "mark(" + a[0] + ", " + a[1] + ", false)", Checks.STATE,
                    x -> x.mark(a[0], a[1], false));
        }
        c.refused(Make::four, "mark(1, 40, false)", Checks.STATE, x -> x.mark(1, 40, false));
        c.refused(Make::four, "mark(2, 2, false)", Checks.STATE, x -> x.mark(2, 2, false));
        c.due("the first behind an end", Make.two().mark(0, 1, false), 4);
        c.due("the last before an end", Make.two().mark(0, 11, false), 4);
        c.refused(ActionTest::cutAtAMark, "an end where an inner mark was", Checks.STATE, x -> x.mark(0, 9, false));
    }

    private static OddRulers cutAtAMark() {
        OddRulers x = Make.two();
        x.cut(0, 9);
        return x;
    }

    @Says("If several exceptions apply to a call, the one that its description names first is thrown.")
    static void promise12_wrongTwice(Checks c) {
        // The place 0 would be an end of the ruler that is not there.
        c.refused(Make::two, "mark(2, 0, false)", Checks.INDEX, x -> x.mark(2, 0, false));
        c.refused(Make::two, "mark(-1, 0, false)", Checks.INDEX, x -> x.mark(-1, 0, false));
        c.refused(Make::two, "mark(4, 0, false)", Checks.INDEX, x -> x.mark(4, 0, false));
        c.refused(OddRulers::new, "mark(0, 0, false)", Checks.INDEX, x -> x.mark(0, 0, false));
        c.refused(ActionTest::cutAtAMark, "the end that was cut off", Checks.INDEX, x -> x.mark(0, 12, false));
    }

    // ---- promise 13

    @Says({"Cuts a ruler: marks beyond its new length are gone.", "Returns the marks of the ruler then.", "`r`: ruler"})
    static void promise13_cut(Checks c) {
        OddRulers x = Make.rulers(Make.row(12, 2, 5, 9), Make.row(8, 3));
        c.due("cut(0, 10)", x.cut(0, 10), 5);
        c.due("marks stay", Picture.row(x, 0), "|.|..|...||");
        c.due("cut(0, 4)", x.cut(0, 4), 3);
        c.due("beyond is gone", Picture.row(x, 0), "|.|.|");
        c.due("the other stays", Picture.row(x, 1), "|..|....|");
        c.due("actions", undone(x), 8);
    }

    @Says("always at 0 and n (its ends; the others are inner marks)")
    static void promise13_cutAtAMark(Checks c) {
        OddRulers x = Make.rulers(Make.row(12, 2, 5, 9));
        c.due("cut(0, 9)", x.cut(0, 9), 4);
        c.due("the mark is the end", Picture.row(x, 0), "|.|..|...|");
        c.due("cut(0, 8)", x.cut(0, 8), 4);
        c.due("a new end", Picture.row(x, 0), "|.|..|..|");
        c.due("cut(0, 2)", x.cut(0, 2), 2);
        c.due("no inner mark", Picture.row(x, 0), "|.|");
        OddRulers y = Make.rulers(Make.fullRow(40));
        for (int n = 40; n >= 2; n--) {
            c.due("cut(0, " + n + ")", y.cut(0, n), n + 1);
        }
    }

    @Says("`n`: 2 to its length: its new length")
    static void promise13_leastAndGreatest(Checks c) {
        OddRulers x = Make.rulers(Make.row(40, 1, 39));
        c.due("cut(0, 40)", x.cut(0, 40), 4);
        c.due("cut(0, 39)", x.cut(0, 39), 3);
        c.due("cut(0, 39) again", x.cut(0, 39), 3);
        c.due("cut(0, 3)", x.cut(0, 3), 3);
        c.due("cut(0, 2)", x.cut(0, 2), 3);
        c.due("cut(0, 2) again", x.cut(0, 2), 3);
        c.due("ruler 0", Picture.row(x, 0), "|||");
        c.due("also what changed nothing was an action", undone(x), 9);
    }

    @Says("Throws `IndexOutOfBoundsException` if there is no such ruler")
    static void promise13_noRuler(Checks c) {
        c.refused(Make::two, "cut(2, 2)", Checks.INDEX, x -> x.cut(2, 2));
        c.refused(Make::four, "cut(4, 2)", Checks.INDEX, x -> x.cut(4, 2));
        for (int r : Make.FAR_OUT) {
            c.refused(Make::livedLong, "cut(" + r + ", 2)", Checks.INDEX, x -> x.cut(r, 2));
        }
    }

    @Says("Throws `IllegalArgumentException` if n is out of range")
    static void promise13_wrongLength(Checks c) {
        for (int n : new int[] {0, 1, 8, 12, 40, 41}) {
            c.refused(Make::livedLong, "cut(1, " + n + ")", Checks.ARGUMENT, x -> x.cut(1, n));
        }
        for (int n : Make.FAR_OUT) {
            c.refused(Make::livedLong, "cut(1, " + n + ")", Checks.ARGUMENT, x -> x.cut(1, n));
        }
        c.refused(Make::four, "cut(1, 41)", Checks.ARGUMENT, x -> x.cut(1, 41));
        c.refused(Make::four, "cut(2, 3)", Checks.ARGUMENT, x -> x.cut(2, 3));
        c.refused(Make::four, "cut(2, 1)", Checks.ARGUMENT, x -> x.cut(2, 1));
        c.refused(ActionTest::cutAtAMark, "back to the old length", Checks.ARGUMENT, x -> x.cut(0, 12));
    }

    @Says("If several exceptions apply to a call, the one that its description names first is thrown.")
    static void promise13_wrongTwice(Checks c) {
        c.refused(Make::two, "cut(2, 1)", Checks.INDEX, x -> x.cut(2, 1));
        c.refused(Make::two, "cut(-1, 41)", Checks.INDEX, x -> x.cut(-1, 41));
        c.refused(Make::two, "cut(2, 41)", Checks.INDEX, x -> x.cut(2, 41));
        c.refused(OddRulers::new, "cut(0, 0)", Checks.INDEX, x -> x.cut(0, 0));
    }

    // ---- promise 14

    @Says({"Turns a ruler: what was at the place p is at its length less p then.", "`r`: ruler",
        "Returns its lowest inner mark then, or its length without one."})
    static void promise14_turn(Checks c) {
        OddRulers x = Make.rulers(Make.row(9, 1, 2, 6), Make.row(5, 1));
        c.due("turn(0)", x.turn(0), 3);
        c.due("ruler 0", Picture.row(x, 0), "|..|...|||");
        c.due("turn(0) again", x.turn(0), 1);
        c.due("ruler 0 again", Picture.row(x, 0), "|||...|..|");
        c.due("the other stays", Picture.row(x, 1), "||...|");
        c.due("actions", undone(x), 8);
    }

    @Says("or its length without one")
    static void promise14_noInnerMark(Checks c) {
        for (int n = 2; n <= 40; n++) {
            c.due("turn(0) of " + n, Make.rulers(Make.row(n)).turn(0), n);
        }
        OddRulers x = Make.rulers(Make.row(40));
        x.turn(0);
        c.due("also what changed nothing was an action", undone(x), 2);
    }

    @Says("what was at the place p is at its length less p then")
    static void promise14_eachPlace(Checks c) {
        for (int p = 1; p < 40; p++) {
            OddRulers x = Make.rulers(Make.row(40, p));
            c.due("turn(0) with a mark at " + p, x.turn(0), 40 - p);
            c.due("ruler 0", Picture.row(x, 0), "|" + ".".repeat(39 - p) + "|" + ".".repeat(p - 1) + "|");
        }
        c.due("the middle", Make.rulers(Make.row(2, 1)).turn(0), 1);
        c.due("all places", Make.rulers(Make.fullRow(40)).turn(0), 1);
    }

    @Says("Throws `IndexOutOfBoundsException` if there is no such ruler")
    static void promise14_noRuler(Checks c) {
        c.refused(Make::two, "turn(2)", Checks.INDEX, x -> x.turn(2));
        c.refused(Make::four, "turn(4)", Checks.INDEX, x -> x.turn(4));
        for (int r : Make.FAR_OUT) {
            c.refused(Make::livedLong, "turn(" + r + ")", Checks.INDEX, x -> x.turn(r));
        }
    }

    // ---- promise 15

    @Says({"Changes a setting.", "Returns the previous one.", "`what`: 0 or 1", "`v`: the new value, in its range"})
    static void promise15_set(Checks c) {
        OddRulers x = new OddRulers();
        c.due("set(0, 5)", x.set(0, 5), 2);
        c.due("set(0, 5) again", x.set(0, 5), 5);
        c.due("set(1, 77)", x.set(1, 77), 40);
        c.due("set(1, 77) again", x.set(1, 77), 77);
        c.due("about(7)", x.about(7), 5);
        c.due("about(8)", x.about(8), 77);
        c.due("also what changed nothing was an action", undone(x), 4);
        c.due("as at first", x.about(7), 2);
        c.due("as at first too", x.about(8), 40);
    }

    @Says("0: layings, 1 to 6, at first 2; 1: the range, 10 to 150, at first 40.")
    static void promise15_leastAndGreatest(Checks c) {
        OddRulers x = new OddRulers();
        c.due("set(0, 1)", x.set(0, 1), 2);
        c.due("set(0, 6)", x.set(0, 6), 1);
        c.due("set(0, 2)", x.set(0, 2), 6);
        c.due("set(1, 10)", x.set(1, 10), 40);
        c.due("set(1, 150)", x.set(1, 150), 10);
        c.due("set(1, 40)", x.set(1, 40), 150);
    }

    @Says("Throws `IllegalArgumentException` if what or v is out of range")
    static void promise15_wrong(Checks c) {
        int[][] wrong = {{0, 0}, {0, 7}, {0, 10}, {0, 40}, {1, 9}, {1, 151}, {1, 2}, {1, 0}, {2, 2}, {2, 40}, {-1, 2},
            {-1, 40}, {2, 0}, {-1, 151}, {7, 2}, {8, 40}};
        for (int[] a : wrong) {
            c.refused(Make::livedLong, "set(" + a[0] + ", " + a[1] + ")", Checks.ARGUMENT, x -> x.set(a[0], a[1]));
        }
        for (int far : Make.FAR_OUT) {
            c.refused(Make::livedLong, "set(0, " + far + ")", Checks.ARGUMENT, x -> x.set(0, far));
            c.refused(Make::livedLong, "set(1, " + far + ")", Checks.ARGUMENT, x -> x.set(1, far));
            c.refused(Make::livedLong, "set(" + far + ", 2)", Checks.ARGUMENT, x -> x.set(far, 2));
            c.refused(Make::livedLong, "set(" + far + ", 40)", Checks.ARGUMENT, x -> x.set(far, 40));
        }
    }

    // ---- promise 16

    @Says({"Changes can be undone.", "Takes back the last action that is remembered.",
        "Returns how many states are still remembered.", "Before each action, the state is remembered.",
        "The methods in the section \"actions\" change the state",
        "Ahead of the calls `ruler`, `mark`, `cut`, `turn`, `set`, `undo` the interface says: ---- actions."})
    static void promise16_undo(Checks c) {
        OddRulers x = Make.rulers(Make.row(9, 4, 7));
        x.turn(0);
        x.cut(0, 5);
        x.set(0, 3);
        x.set(1, 10);
        c.due("set", x.undo(), 6);
        c.due("setting 1", x.about(8), 40);
        c.due("set", x.undo(), 5);
        c.due("setting 0", x.about(7), 2);
        c.due("cut", x.undo(), 4);
        c.due("as before the cut", Picture.row(x, 0), "|.|..|...|");
        c.due("turn", x.undo(), 3);
        c.due("as before the turn", Picture.row(x, 0), "|...|..|.|");
        c.due("mark", x.undo(), 2);
        c.due("as before the mark", Picture.row(x, 0), "|...|....|");
        c.due("mark", x.undo(), 1);
        c.due("ruler", x.undo(), 0);
        c.due("none", x.about(0), 0);
    }

    @Says("Throws `IllegalStateException` if none is remembered")
    static void promise16_none(Checks c) {
        c.refused(OddRulers::new, "undo() first", Checks.STATE, OddRulers::undo);
        c.refused(ActionTest::allUndone, "undo() once more", Checks.STATE, OddRulers::undo);
        c.refused(ActionTest::undoneFromMost, "undo() of what is forgotten", Checks.STATE, OddRulers::undo);
    }

    private static OddRulers allUndone() {
        OddRulers x = Make.lived();
        undone(x);
        return x;
    }

    private static OddRulers undoneFromMost() {
        OddRulers x = Make.livedLong();
        undone(x);
        return x;
    }

    @Says({"At most 14 states are remembered; when one more is remembered, the oldest one is forgotten.",
        "IllegalStateException means what the method says."})
    static void promise16_fourteen(Checks c) {
        for (int actions = 0; actions <= 44; actions++) {
            OddRulers x = new OddRulers();
            for (int i = 1; i <= actions; i++) {
                x.set(1, 40 + i);
            }
            int most = Math.min(actions, 14);
            for (int left = most - 1; left >= 0; left--) {
                c.due("undo behind " + actions, x.undo(), left);
                c.due("the state", x.about(8), 40 + actions - most + left);
            }
            c.due("the next of " + actions, Checks.answer(x, OddRulers::undo), Checks.STATE);
            c.due("the state stays", x.about(8), 40 + actions - most);
        }
    }

    @Says("Each call of one of them that does not throw an exception is an action, also if nothing becomes different "
            + "(undo is none).")
    static void promise16_undoIsNone(Checks c) {
        OddRulers x = Make.rulers(Make.row(9));
        x.mark(0, 4, true);
        x.mark(0, 7, true);
        c.due("undo()", x.undo(), 2);
        c.due("undo() goes on, not back", x.undo(), 1);
        c.due("ruler 0", Picture.row(x, 0), "|........|");
        c.due("another branch", x.mark(0, 1, true), 3);
        c.due("undo()", x.undo(), 1);
        c.due("undo()", x.undo(), 0);
        c.due("rulers", x.about(0), 0);
    }

    @Says("A call that throws an exception changes nothing.")
    static void promise16_refusedIsNone(Checks c) {
        OddRulers x = Make.four();
        Checks.Call[] refused = {y -> y.ruler(5), y -> y.ruler(41), y -> y.mark(0, 0, false), y -> y.mark(0, 6, true),
            y -> y.cut(0, 6), y -> y.cut(4, 2), y -> y.turn(4), y -> y.set(0, 7), y -> y.set(2, 2)};
        for (Checks.Call call : refused) {
            c.due("refused", Checks.answer(x, call).startsWith("throws"), true);
        }
        c.due("none of them is remembered", x.undo(), 5);
        c.due("the last that was", Picture.row(x, 3), "|........|");
    }

    @Says({"Ahead of the calls `append`, `clearText`, `errorPosition`, `load` the interface says: ---- text.",
        "Ahead of the calls `about`, `rulerOf`, `isMarked`, `span`, `gap` the interface says: ---- what there is.",
        "Ahead of the calls `runScript`, `simulate` the interface says: ---- scripts, simulations.",
        "Ahead of the calls `save`, `restore` the interface says: ---- save slots."})
    static void promise16_onlyActionsAreRemembered(Checks c) {
        OddRulers x = Make.rulers(Make.row(12, 4), Make.row(7));
        Checks.Call[] others = {y -> y.append('K'), OddRulers::clearText, OddRulers::errorPosition, y -> y.about(5),
            y -> y.rulerOf(0, 4), y -> y.isMarked(0, 4), y -> y.span(0, 0, 3), y -> y.gap(0, 1), y -> y.fewest(9, 1),
            y -> y.laying(9, 0, 0), y -> y.why(9), y -> y.bestMark(0, 0), y -> y.needless(0),
            y -> y.twin(0, 1, false), OddRulers::layings, y -> y.runScript(1, 400000), y -> y.simulate(1, 60),
            y -> y.save(0)};
        for (Checks.Call call : others) {
            c.due("not refused", Checks.answer(x, call).startsWith("throws"), false);
        }
        c.due("undo()", x.undo(), 2);
    }

    @Says("An object is used for at most 512 calls after it has been made")
    static void promise16_manyCalls(Checks c) {
        OddRulers x = new OddRulers();
        x.ruler(40);
        for (int call = 2; call <= 511; call++) {
            int p = 1 + call % 39;
            int marks = x.mark(0, p, call / 39 % 2 == 0);
            c.due("call " + call, marks >= 2 && marks <= 41, true);
        }
        c.due("the 512th call", x.undo(), 13);
    }

    /** How many actions can be taken back. */
    private static int undone(OddRulers x) {
        int count = 0;
        while (count < 100 && !Checks.answer(x, OddRulers::undo).startsWith("throws")) {
            count++;
        }
        return count;
    }
}
