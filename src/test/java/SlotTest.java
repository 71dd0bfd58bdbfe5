/** Promises 26 and 27: the save slots. */
final class SlotTest {
    private SlotTest() {
    }

    static void promise26_save(Checks c) {
        OddRulers x = new OddRulers();
        c.due("save(0) without rulers", x.save(0), 0);
        x.ruler(9);
        x.mark(0, 4, true);
        c.due("save(1)", x.save(1), 1);
        c.due("save is no action", x.undo(), 1);
        c.refused(x, "save(2)", Checks.INDEX, () -> x.save(2));
        c.refused(x, "save(-1)", Checks.INDEX, () -> x.save(-1));
        x.ruler(5);
        c.due("save(0) again", x.save(0), 2);
        c.due("restore(1)", x.restore(1), 1);
        c.due("as saved in 1", Picture.row(x, 0), "|...|....|");
        c.due("restore(0)", x.restore(0), 2);
        c.due("as saved in 0 last", Picture.row(x, 0), "|........|");
    }

    static void promise27_restore(Checks c) {
        OddRulers x = Make.rulers(Make.row(9, 4), Make.row(5));
        Make.write(x, "Kr02");
        x.set(0, 5);
        x.set(1, 99);
        x.save(1);
        String saved = Picture.of(x);
        x.cut(0, 3);
        x.turn(1);
        x.set(0, 1);
        x.set(1, 20);
        x.ruler(40);
        c.refused(x, "restore(0)", Checks.STATE, () -> x.restore(0));
        c.refused(x, "restore(2)", Checks.INDEX, () -> x.restore(2));
        c.refused(x, "restore(-1)", Checks.INDEX, () -> x.restore(-1));
        c.due("these forget nothing", x.undo(), 9);
        c.due("restore(1)", x.restore(1), 2);
        c.due("as saved", Picture.of(x), saved);
        c.throwing("nothing is remembered", Checks.STATE, x::undo);
        x.mark(0, 8, true);
        c.due("restore is no action", x.undo(), 0);
        x.mark(0, 8, true);
        c.due("the slot keeps it", x.restore(1), 2);
        c.due("as saved again", Picture.of(x), saved);
        c.due("the text stays", x.clearText(), 4);
        Make.write(x, "K");
        x.load();
        c.throwing("empty since the load", Checks.STATE, () -> x.restore(1));
    }
}
