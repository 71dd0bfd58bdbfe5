/** Promises 26 and 27: the save slots. */
final class SlotTest {
    private static final int[] WRONG_SLOTS = {-1, 2, 3, Integer.MIN_VALUE, Integer.MAX_VALUE};

    private SlotTest() {
    }

    // ---- promise 26

    @Says({"Stores the present state in a save slot.", "`slot`: 0 or 1"})
    static void promise26_save(Checks c) {
        for (int slot = 0; slot < 2; slot++) {
            OddRulers x = Make.set(5, 99, Make.row(9, 4), Make.row(5));
            String saved = Picture.of(x);
            x.save(slot);
            x.cut(0, 3);
            x.turn(1);
            x.mark(1, 2, true);
            x.set(0, 1);
            x.set(1, 20);
            x.ruler(40);
            c.due("changes leave the slot alone", x.restore(slot), 2);
            c.due("as saved", Picture.of(x), saved);
        }
    }

    @Says("Stores the present state")
    static void promise26_lastOneStays(Checks c) {
        OddRulers x = Make.rulers(Make.row(9, 4));
        x.save(0);
        x.save(1);
        x.ruler(5);
        c.due("save(0) again", x.save(0), 2);
        c.due("restore(1)", x.restore(1), 1);
        c.due("restore(0)", x.restore(0), 2);
    }

    @Says("Returns the rulers.")
    static void promise26_rulers(Checks c) {
        OddRulers x = new OddRulers();
        for (int rulers = 0; rulers <= 4; rulers++) {
            c.due("save(0)", x.save(0), rulers);
            c.due("save(1)", x.save(1), rulers);
            Checks.answer(x, y -> y.ruler(7));
        }
    }

    @Says("which consists of everything but the text and the save slots")
    static void promise26_slotsAreNoState(Checks c) {
        OddRulers x = Make.rulers(Make.row(9), Make.row(5));
        x.save(0);
        c.due("save is not remembered", x.undo(), 1);
        c.due("the slot stays", x.restore(0), 2);
        x.ruler(7);
        x.restore(0);
        x.save(1);
        Make.write(x, "Kr02");
        c.due("slots keep no text", x.restore(1), 2);
        c.due("it stays", x.clearText(), 4);
    }

    @Says("Throws `IndexOutOfBoundsException` if there is no such save slot")
    static void promise26_wrong(Checks c) {
        for (int slot : WRONG_SLOTS) {
            c.refused(OddRulers::new, "save(" + slot + ") first", Checks.INDEX, x -> x.save(slot));
            c.refused(Make::lived, "save(" + slot + ")", Checks.INDEX, x -> x.save(slot));
            c.refused(Make::livedLong, "save(" + slot + ")", Checks.INDEX, x -> x.save(slot));
        }
    }

    // ---- promise 27

    @Says({"Replaces the state by the one in a save slot, and forgets all remembered states.", "`slot`: 0 or 1"})
    static void promise27_restore(Checks c) {
        for (int slot = 0; slot < 2; slot++) {
            int s = slot;
            c.refused(() -> restored(s), "undo() behind restore(" + s + ")", Checks.STATE, OddRulers::undo);
            OddRulers x = restored(slot);
            c.due("as saved", Picture.of(x), slot == 0 ? "text -1" + Picture.of(Make.two()).substring(6)
                    : Picture.of(Make.livedLongBeforeTurn()));
            x.mark(0, 8, true);
            c.due("restore is no action", x.undo(), 0);
        }
    }

    private static OddRulers restored(int slot) {
        OddRulers x = Make.livedLong();
        x.restore(slot);
        return x;
    }

    @Says("The save slot keeps it.")
    static void promise27_slotKeepsIt(Checks c) {
        OddRulers x = Make.two();
        x.save(1);
        String saved = Picture.of(x);
        for (int i = 0; i < 3; i++) {
            x.cut(0, 3);
            x.ruler(8);
            c.due("restore(1)", x.restore(1), 2);
            c.due("as saved", Picture.of(x), saved);
        }
    }

    @Says("Returns the rulers then.")
    static void promise27_rulers(Checks c) {
        for (int rulers = 0; rulers <= 4; rulers++) {
            OddRulers x = new OddRulers();
            for (int r = 0; r < rulers; r++) {
                x.ruler(9);
            }
            x.save(0);
            Checks.answer(x, y -> y.ruler(7));
            c.due("restore(0)", x.restore(0), rulers);
            c.due("about(0)", x.about(0), rulers);
        }
    }

    @Says({"IndexOutOfBoundsException means that a ruler, a place, a span or a gap does not exist, or that a save slot is not "
        + "0 or 1.", "Throws `IndexOutOfBoundsException` if there is no such save slot"})
    static void promise27_wrong(Checks c) {
        for (int slot : WRONG_SLOTS) {
            c.refused(Make::livedLong, "restore(" + slot + ")", Checks.INDEX, x -> x.restore(slot));
        }
    }

    @Says("Throws `IllegalStateException` if nothing has been saved in it since the last load")
    static void promise27_empty(Checks c) {
        c.refused(OddRulers::new, "restore(0) first", Checks.STATE, x -> x.restore(0));
        c.refused(OddRulers::new, "restore(1) first", Checks.STATE, x -> x.restore(1));
        c.refused(Make::lived, "restore(1), 0 is filled", Checks.STATE, x -> x.restore(1));
        c.refused(() -> saved(1), "restore(0), 1 is filled", Checks.STATE, x -> x.restore(0));
        for (int slot = 0; slot < 2; slot++) {
            int s = slot;
            c.refused(() -> loaded(s), "restore(" + s + ") behind a load", Checks.STATE, x -> x.restore(s));
            OddRulers x = loaded(slot);
            c.due("save behind a load", x.save(slot), 1);
            c.due("restore then", x.restore(slot), 1);
            Make.write(x, "Kr");
            Checks.answer(x, OddRulers::load);
            c.due("a load that is refused empties none", x.restore(slot), 1);
        }
    }

    private static OddRulers saved(int slot) {
        OddRulers x = Make.two();
        x.save(slot);
        return x;
    }

    private static OddRulers loaded(int slot) {
        OddRulers x = saved(slot);
        Make.write(x, "Kr08");
        x.load();
        return x;
    }

    @Says({"If several exceptions apply to a call, the one that its description names first is thrown.",
        "IllegalArgumentException means that another argument is out of its range."})
    static void promise27_wrongAndEmpty(Checks c) {
        for (int slot : WRONG_SLOTS) {
            c.refused(OddRulers::new, "restore(" + slot + ") first", Checks.INDEX, x -> x.restore(slot));
            c.refused(() -> loaded(0), "restore(" + slot + ") behind a load", Checks.INDEX, x -> x.restore(slot));
        }
    }
}
