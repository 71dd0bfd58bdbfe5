/** Promises 1 to 5: a new object, and the text. */
final class TextTest {
    private TextTest() {
    }

    static void promise01_newObject(Checks c) {
        OddRulers x = new OddRulers();
        int[] want = {0, 0, 0, 0, 0, 0, 1, 2, 40};
        for (int what = 0; what <= 8; what++) {
            c.due("about(" + what + ")", x.about(what), want[what]);
        }
        c.due("the text is empty", x.clearText(), 0);
        c.due("gap(0, 0)", x.gap(0, 0), 1);
        c.due("gap(0, 1)", x.gap(0, 1), 40);
        c.throwing("nothing to undo", Checks.STATE, x::undo);
        c.throwing("slot 0 is empty", Checks.STATE, () -> x.restore(0));
        c.throwing("slot 1 is empty", Checks.STATE, () -> x.restore(1));
        c.throwing("no ruler 0", Checks.INDEX, () -> x.rulerOf(0, 0));
        OddRulers other = new OddRulers();
        x.ruler(5);
        c.due("objects share nothing", other.about(0), 0);
    }

    static void promise02_append(Checks c) {
        OddRulers x = new OddRulers();
        c.throwing("append(-1)", Checks.ARGUMENT, () -> x.append(-1));
        c.throwing("append(256)", Checks.ARGUMENT, () -> x.append(256));
        c.throwing("append(75 + 65536)", Checks.ARGUMENT, () -> x.append(75 + 65536));
        c.throwing("append(least int)", Checks.ARGUMENT, () -> x.append(Integer.MIN_VALUE));
        c.due("append(0)", x.append(0), 1);
        c.due("append(255)", x.append(255), 2);
        for (int i = 3; i <= 120; i++) {
            c.due("append " + i, x.append('K'), i);
        }
        c.throwing("the 121st", Checks.STATE, () -> x.append('K'));
        c.throwing("a wrong 121st", Checks.ARGUMENT, () -> x.append(256));
        c.due("length kept", x.clearText(), 120);
        c.due("room again", x.append('K'), 1);
    }

    static void promise03_clearText(Checks c) {
        OddRulers x = Make.text("Kr05");
        x.load();
        c.due("clearText()", x.clearText(), 4);
        c.due("clearText() again", x.clearText(), 0);
        c.due("nothing is left", x.errorPosition(), 0);
        c.due("the rulers stay", x.about(0), 1);
        Make.write(x, "K");
        c.due("only the new text", x.errorPosition(), OddRulers.NONE);
    }

    static void promise04_errorPosition(Checks c) {
        due(c, "", 0);
        due(c, "k", 0);
        due(c, "r12", 0);
        due(c, " K", 0);
        due(c, "K", OddRulers.NONE);
        due(c, "KK", 1);
        due(c, "K ", 1);
        due(c, "Kr", 2);
        due(c, "Kr0", 3);
        due(c, "Kr00", 3);
        due(c, "Kr01", 3);
        due(c, "Kr02", OddRulers.NONE);
        due(c, "Kr39", OddRulers.NONE);
        due(c, "Kr40", OddRulers.NONE);
        due(c, "Kr41", 3);
        due(c, "Kr50", 2);
        due(c, "Kr4", 3);
        due(c, "Krx", 2);
        due(c, "Kr:0", 2);
        due(c, "Kr/0", 2);
        due(c, "Kr0:", 3);
        due(c, "Kr1/", 3);
        due(c, "Km1/9", 3);
        due(c, "Ks:", 2);
        due(c, "Kg1/9", 3);
        due(c, "Kr020", 4);
        due(c, "Km", 2);
        due(c, "Km3", 3);
        due(c, "Km4", 2);
        due(c, "Km300", OddRulers.NONE);
        due(c, "Km340", OddRulers.NONE);
        due(c, "Km341", 4);
        due(c, "Km35", 3);
        due(c, "Kx000", OddRulers.NONE);
        due(c, "Kx040", OddRulers.NONE);
        due(c, "Kx049", 4);
        due(c, "Kx4", 2);
        due(c, "Kx05", 3);
        due(c, "Kc001", 4);
        due(c, "Kc002", OddRulers.NONE);
        due(c, "Kc340", OddRulers.NONE);
        due(c, "Kc341", 4);
        due(c, "Kc4", 2);
        due(c, "Kc35", 3);
        due(c, "Kt", 2);
        due(c, "Kt0", OddRulers.NONE);
        due(c, "Kt3", OddRulers.NONE);
        due(c, "Kt4", 2);
        due(c, "Ks0", 2);
        due(c, "Ks1", OddRulers.NONE);
        due(c, "Ks6", OddRulers.NONE);
        due(c, "Ks7", 2);
        due(c, "Kg", 2);
        due(c, "Kg0", 3);
        due(c, "Kg00", 3);
        due(c, "Kg009", 3);
        due(c, "Kg01", 4);
        due(c, "Kg010", OddRulers.NONE);
        due(c, "Kg099", OddRulers.NONE);
        due(c, "Kg100", OddRulers.NONE);
        due(c, "Kg149", OddRulers.NONE);
        due(c, "Kg150", OddRulers.NONE);
        due(c, "Kg151", 4);
        due(c, "Kg16", 3);
        due(c, "Kg2", 2);
        due(c, "Kr12m004x004c010t0s3g044Kr", 24);
        due(c, "Kr12m004x004c010t0s3g044", OddRulers.NONE);
        due(c, "Kr12\u0000", 4);
        due(c, "Kr1\u00b2", 3);
        OddRulers x = Make.text("K" + "t0".repeat(59) + "t");
        c.due("120 characters, cut off", x.errorPosition(), 120);
        OddRulers y = Make.text("K" + "t0".repeat(58) + "r12");
        c.due("120 characters", y.errorPosition(), OddRulers.NONE);
        c.due("nothing is done", y.about(0), 0);
    }

    private static void due(Checks c, String text, int want) {
        c.due("errorPosition() of '" + text + "'", Make.text(text).errorPosition(), want);
    }

    static void promise05_load(Checks c) {
        OddRulers x = Make.text("Kr12m004m009r07m102x009c105t0s3g044");
        c.due("load()", x.load(), 0);
        c.due("ruler 0", Picture.row(x, 0), "|.......|...|");
        c.due("ruler 1", Picture.row(x, 1), "|.|..|");
        c.due("setting 0", x.about(7), 3);
        c.due("setting 1", x.about(8), 44);
        c.throwing("nothing to undo behind it", Checks.STATE, x::undo);
        c.due("the text stays", x.clearText(), 35);
        c.due("K alone", loaded("K"), 0);
        c.due("wrong rulers", loaded("Km000x000c002t0"), 4);
        c.due("a fifth ruler", loaded("Kr02r03r04r05r06r07"), 2);
        c.due("beyond the ends, an end taken away", loaded("Kr05m006x000x005m005x004c006c005"), 4);
        c.due("an end that is no place any more", loaded("Kr05c004x005x004"), 2);
    }

    private static int loaded(String text) {
        return Make.text(text).load();
    }

    static void promise05_loadMakesNew(Checks c) {
        OddRulers x = Make.rulers(Make.row(9, 3), Make.row(5));
        x.set(0, 5);
        x.set(1, 77);
        x.save(0);
        x.save(1);
        Make.write(x, "Kr03g");
        c.refused(x, "load() of no case", Checks.STATE, x::load);
        c.due("that keeps the text", x.clearText(), 5);
        c.due("and what can be undone", x.undo(), 4);
        c.due("and the slots", x.restore(1), 2);
        x.ruler(5);
        Make.write(x, "Kr03");
        c.due("load()", x.load(), 0);
        c.due("rulers", x.about(0), 1);
        c.due("ruler 0", Picture.row(x, 0), "|..|");
        c.due("setting 0", x.about(7), 2);
        c.due("setting 1", x.about(8), 40);
        c.throwing("nothing to undo", Checks.STATE, x::undo);
        c.throwing("slot 0 is empty", Checks.STATE, () -> x.restore(0));
        c.throwing("slot 1 is empty", Checks.STATE, () -> x.restore(1));
        x.mark(0, 1, true);
        c.due("load is no action", x.undo(), 0);
    }
}
