/** Promises 11 to 16: the actions, and undo. */
final class ActionTest {
    private ActionTest() {
    }

    static void promise11_ruler(Checks c) {
        OddRulers x = new OddRulers();
        c.refused(x, "ruler(1)", Checks.ARGUMENT, () -> x.ruler(1));
        c.refused(x, "ruler(41)", Checks.ARGUMENT, () -> x.ruler(41));
        c.refused(x, "ruler(-7)", Checks.ARGUMENT, () -> x.ruler(-7));
        c.due("ruler(2)", x.ruler(2), 0);
        c.due("ruler(40)", x.ruler(40), 1);
        c.due("ruler(3)", x.ruler(3), 2);
        c.due("ruler(3) again", x.ruler(3), 3);
        c.due("ruler 0", Picture.row(x, 0), "|.|");
        c.due("ruler 3", Picture.row(x, 3), "|..|");
        c.due("marks of ruler 1", x.rulerOf(1, 1), 2);
        c.due("length of ruler 1", x.rulerOf(1, 0), 40);
        c.refused(x, "a fifth", Checks.STATE, () -> x.ruler(5));
        c.refused(x, "a wrong fifth", Checks.ARGUMENT, () -> x.ruler(41));
        c.due("four actions", undone(x), 4);
    }

    static void promise11_noOldMarks(Checks c) {
        OddRulers x = Make.rulers(Make.row(9, 3, 5));
        x.undo();
        x.undo();
        x.undo();
        x.ruler(7);
        c.due("a new one in an old place", Picture.row(x, 0), "|......|");
    }

    static void promise12_mark(Checks c) {
        OddRulers x = Make.rulers(Make.row(6), Make.row(40));
        c.due("mark(0, 4, true)", x.mark(0, 4, true), 3);
        c.due("mark(0, 1, true)", x.mark(0, 1, true), 4);
        c.due("again", x.mark(0, 1, true), 4);
        c.due("at an end", x.mark(0, 6, true), 4);
        c.due("at the other end", x.mark(0, 0, true), 4);
        c.due("ruler 0", Picture.row(x, 0), "||..|.|");
        c.due("mark(0, 4, false)", x.mark(0, 4, false), 3);
        c.due("again", x.mark(0, 4, false), 3);
        c.due("mark(1, 39, true)", x.mark(1, 39, true), 3);
        c.due("ruler 0 then", Picture.row(x, 0), "||....|");
        c.refused(x, "mark(0, 0, false)", Checks.STATE, () -> x.mark(0, 0, false));
        c.refused(x, "mark(0, 6, false)", Checks.STATE, () -> x.mark(0, 6, false));
        c.refused(x, "mark(1, 40, false)", Checks.STATE, () -> x.mark(1, 40, false));
        c.refused(x, "mark(0, 7, true)", Checks.INDEX, () -> x.mark(0, 7, true));
        c.refused(x, "mark(0, 7, false)", Checks.INDEX, () -> x.mark(0, 7, false));
        c.refused(x, "mark(0, -1, false)", Checks.INDEX, () -> x.mark(0, -1, false));
        c.refused(x, "mark(2, 0, false)", Checks.INDEX, () -> x.mark(2, 0, false));
        c.refused(x, "mark(-1, 0, true)", Checks.INDEX, () -> x.mark(-1, 0, true));
        c.due("what changed nothing was an action too", undone(x), 10);
    }

    static void promise13_cut(Checks c) {
        OddRulers x = Make.rulers(Make.row(12, 2, 5, 9), Make.row(8, 3));
        c.due("cut(0, 12)", x.cut(0, 12), 5);
        c.due("cut(0, 10)", x.cut(0, 10), 5);
        c.due("marks stay", Picture.row(x, 0), "|.|..|...||");
        c.due("cut(0, 9), where a mark is", x.cut(0, 9), 4);
        c.due("it is the end", Picture.row(x, 0), "|.|..|...|");
        c.due("cut(0, 4)", x.cut(0, 4), 3);
        c.due("beyond is gone", Picture.row(x, 0), "|.|.|");
        c.due("cut(0, 2)", x.cut(0, 2), 2);
        c.due("the other stays", Picture.row(x, 1), "|..|....|");
        c.refused(x, "cut(1, 9)", Checks.ARGUMENT, () -> x.cut(1, 9));
        c.refused(x, "cut(1, 1)", Checks.ARGUMENT, () -> x.cut(1, 1));
        c.refused(x, "cut(0, 3)", Checks.ARGUMENT, () -> x.cut(0, 3));
        c.refused(x, "cut(2, 2)", Checks.INDEX, () -> x.cut(2, 2));
        c.refused(x, "cut(2, 1)", Checks.INDEX, () -> x.cut(2, 1));
        c.refused(x, "cut(-1, 41)", Checks.INDEX, () -> x.cut(-1, 41));
        c.due("actions", undone(x), 11);
    }

    static void promise14_turn(Checks c) {
        OddRulers x = Make.rulers(Make.row(9, 1, 2, 6), Make.row(40, 1), Make.row(5));
        c.due("turn(0)", x.turn(0), 3);
        c.due("ruler 0", Picture.row(x, 0), "|..|...|||");
        c.due("turn(0) again", x.turn(0), 1);
        c.due("ruler 0 again", Picture.row(x, 0), "|||...|..|");
        c.due("turn(1)", x.turn(1), 39);
        c.due("ruler 1", Picture.row(x, 1), "|" + ".".repeat(38) + "||");
        c.due("turn(2)", x.turn(2), 5);
        c.due("ruler 2", Picture.row(x, 2), "|....|");
        c.refused(x, "turn(3)", Checks.INDEX, () -> x.turn(3));
        c.refused(x, "turn(-1)", Checks.INDEX, () -> x.turn(-1));
        c.due("actions", undone(x), 11);
    }

    static void promise15_set(Checks c) {
        OddRulers x = new OddRulers();
        c.due("set(0, 1)", x.set(0, 1), 2);
        c.due("set(0, 6)", x.set(0, 6), 1);
        c.due("set(0, 6) again", x.set(0, 6), 6);
        c.due("set(1, 10)", x.set(1, 10), 40);
        c.due("set(1, 150)", x.set(1, 150), 10);
        c.due("about(7)", x.about(7), 6);
        c.due("about(8)", x.about(8), 150);
        int[][] wrong = {{0, 0}, {0, 7}, {0, -1}, {0, 40}, {1, 9}, {1, 151}, {1, 2}, {2, 2}, {-1, 2}, {2, 40}, {-1, 40}};
        for (int[] a : wrong) {
            c.refused(x, "set(" + a[0] + ", " + a[1] + ")", Checks.ARGUMENT, () -> x.set(a[0], a[1]));
        }
        c.due("actions", undone(x), 5);
        c.due("as at first", x.about(7), 2);
        c.due("as at first too", x.about(8), 40);
    }

    static void promise16_undo(Checks c) {
        OddRulers x = new OddRulers();
        c.throwing("undo()", Checks.STATE, x::undo);
        x.ruler(9);
        x.mark(0, 4, true);
        x.mark(0, 7, true);
        x.turn(0);
        x.cut(0, 5);
        x.set(0, 3);
        x.set(1, 10);
        c.due("set", x.undo(), 6);
        c.due("setting 1", x.about(8), 40);
        c.due("set", x.undo(), 5);
        c.due("setting 0", x.about(7), 2);
        c.due("cut", x.undo(), 4);
        c.due("as before the cut", Picture.row(x, 0), "|.|..|...|");
        c.due("turn", x.undo(), 3);
        c.due("as before the turn", Picture.row(x, 0), "|...|..|.|");
        c.due("mark", x.undo(), 2);
        c.due("as before the mark", Picture.row(x, 0), "|...|....|");
        x.mark(0, 1, true);
        c.due("another branch", x.undo(), 2);
        c.due("mark", x.undo(), 1);
        c.due("ruler", x.undo(), 0);
        c.due("none", x.about(0), 0);
        c.refused(x, "undo()", Checks.STATE, x::undo);
    }

    static void promise16_undoForgets(Checks c) {
        OddRulers x = new OddRulers();
        x.ruler(40);
        for (int p = 1; p <= 33; p++) {
            x.mark(0, p, true);
        }
        for (int left = 13; left >= 0; left--) {
            c.due("undo", x.undo(), left);
            c.due("marks", x.rulerOf(0, 1), 22 - 1 + left);
        }
        c.refused(x, "the oldest are forgotten", Checks.STATE, x::undo);
        for (int p = 20; p <= 38; p++) {
            x.mark(0, p, true);
        }
        c.due("14 again", undone(x), 14);
        c.due("marks then", x.rulerOf(0, 1), 26);
    }

    static void promise16_onlyActionsAreRemembered(Checks c) {
        OddRulers x = Make.rulers(Make.row(12, 4), Make.row(7));
        Make.write(x, "Kt0");
        x.about(5);
        x.fewest(9, 1);
        x.laying(9, 0, 0);
        x.bestMark(0, 0);
        x.needless(0);
        x.layings();
        x.runScript(1, 400000);
        x.simulate(1, 60);
        x.save(0);
        c.due("undo()", x.undo(), 2);
        c.due("the slot stays", x.restore(0), 2);
        c.throwing("restore forgets", Checks.STATE, x::undo);
        c.due("the text stays", x.errorPosition(), OddRulers.NONE);
    }

    private static int undone(OddRulers x) {
        int count = 0;
        while (count < 100 && !Checks.answer(x::undo).startsWith("throws")) {
            count++;
        }
        return count;
    }
}
