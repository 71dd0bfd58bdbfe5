import java.util.function.IntPredicate;

/** Promises 1 to 5: a new object, and the text. */
final class TextTest {
    private static final String LETTERS = "rmxctsg";

    private TextTest() {
    }

    // ---- promise 1

    @Says("Creates a case without rulers.")
    static void promise01_newObject(Checks c) {
        int[] want = {0, 0, 0, 0, 0, 0, 1, 2, 40};
        OddRulers x = new OddRulers();
        for (int what = 0; what <= 8; what++) {
            c.due("about(" + what + ")", x.about(what), want[what]);
        }
        c.due("gap(0, 0)", x.gap(0, 0), 1);
        c.due("gap(0, 1)", x.gap(0, 1), 40);
        c.due("layings()", x.layings(), OddRulers.NONE);
    }

    @Says("Creates a case without rulers.")
    static void promise01_noRulerIsThere(Checks c) {
        c.refused(OddRulers::new, "rulerOf(0, 0)", Checks.INDEX, x -> x.rulerOf(0, 0));
        c.refused(OddRulers::new, "isMarked(0, 0)", Checks.INDEX, x -> x.isMarked(0, 0));
        c.refused(OddRulers::new, "span(0, 0, 0)", Checks.INDEX, x -> x.span(0, 0, 0));
        c.refused(OddRulers::new, "mark(0, 0, true)", Checks.INDEX, x -> x.mark(0, 0, true));
        c.refused(OddRulers::new, "mark(0, 0, false)", Checks.INDEX, x -> x.mark(0, 0, false));
        c.refused(OddRulers::new, "cut(0, 2)", Checks.INDEX, x -> x.cut(0, 2));
        c.refused(OddRulers::new, "turn(0)", Checks.INDEX, x -> x.turn(0));
        c.refused(OddRulers::new, "bestMark(0, 0)", Checks.INDEX, x -> x.bestMark(0, 0));
        c.refused(OddRulers::new, "needless(0)", Checks.INDEX, x -> x.needless(0));
        c.refused(OddRulers::new, "twin(0, 0, false)", Checks.INDEX, x -> x.twin(0, 0, false));
    }

    @Says("Creates a case without rulers.")
    static void promise01_nothingIsKept(Checks c) {
        c.due("the text is empty", new OddRulers().clearText(), 0);
        c.refused(OddRulers::new, "undo()", Checks.STATE, OddRulers::undo);
        c.refused(OddRulers::new, "restore(0)", Checks.STATE, x -> x.restore(0));
        c.refused(OddRulers::new, "restore(1)", Checks.STATE, x -> x.restore(1));
        OddRulers other = new OddRulers();
        Make.livedLong();
        c.due("objects share nothing", Picture.of(other), Picture.of(new OddRulers()));
    }

    @Says("The constants: `NONE = -1`: There is no such result.")
    static void promise01_none(Checks c) {
        c.due("NONE", OddRulers.NONE, -1);
    }

    @Says("0: layings, 1 to 6, at first 2; 1: the range, 10 to 150, at first 40.")
    static void promise01_settingsAtFirst(Checks c) {
        c.due("set(0, 1)", new OddRulers().set(0, 1), 2);
        c.due("set(1, 10)", new OddRulers().set(1, 10), 40);
    }

    // ---- promise 2

    @Says({"Appends a character to the text buffer.", "Returns the new length of the text."})
    static void promise02_append(Checks c) {
        OddRulers x = new OddRulers();
        String text = "Kr05";
        for (int i = 0; i < text.length(); i++) {
            c.due("append number " + i, x.append(text.charAt(i)), i + 1);
        }
        c.due("load()", x.load(), 0);
        c.due("its length", x.rulerOf(0, 0), 5);
        c.due("behind a load it goes on", x.append('t'), 5);
    }

    @Says("`c`: character code, 0 to 255")
    static void promise02_eachCharacter(Checks c) {
        for (int code = 0; code <= 255; code++) {
            OddRulers x = Make.text("K");
            c.due("append(" + code + ")", x.append(code), 2);
            c.due("append(0) behind " + code, x.append(0), 3);
            c.due("errorPosition() with " + code, x.errorPosition(), LETTERS.indexOf(code) >= 0 ? 2 : 1);
            c.due("clearText() with " + code, x.clearText(), 3);
        }
    }

    @Says("Throws `IllegalArgumentException` if c is out of range")
    static void promise02_outOfRange(Checks c) {
        int[] wrong = {-1, 256, 'K' + 256, 'K' + 65536, 'K' - 256, Integer.MIN_VALUE, Integer.MAX_VALUE};
        for (int code : wrong) {
            c.refused(OddRulers::new, "append(" + code + ") first", Checks.ARGUMENT, x -> x.append(code));
            c.refused(Make::lived, "append(" + code + ")", Checks.ARGUMENT, x -> x.append(code));
        }
    }

    @Says("The object has a text buffer of at most 120 characters.")
    static void promise02_room(Checks c) {
        OddRulers x = new OddRulers();
        for (int i = 1; i <= 120; i++) {
            c.due("append number " + i, x.append('K'), i);
        }
        c.due("clearText()", x.clearText(), 120);
        OddRulers y = Make.text("K" + "t0".repeat(58) + "r12");
        c.due("the last of 120 is read", y.load(), 58);
        c.due("its length", y.rulerOf(0, 0), 12);
    }

    @Says("Throws `IllegalStateException` if the text already has 120 characters")
    static void promise02_full(Checks c) {
        String text = "K" + "t0".repeat(58) + "r12";
        for (int code : new int[] {0, 'K', 't', 255}) {
            c.refused(Make.texted(text), "append(" + code + ") to 120", Checks.STATE, x -> x.append(code));
        }
        OddRulers x = Make.text(text.substring(0, 119));
        c.due("one before", x.append('2'), 120);
        x.clearText();
        c.due("room again", x.append('K'), 1);
    }

    @Says("If several exceptions apply to a call, the one that its description names first is thrown.")
    static void promise02_wrongAndFull(Checks c) {
        for (int code : new int[] {-1, 256, Integer.MIN_VALUE, Integer.MAX_VALUE}) {
            c.refused(Make.texted("K".repeat(120)), "append(" + code + ") to 120", Checks.ARGUMENT,
                    x -> x.append(code));
        }
    }

    // ---- promise 3

    @Says("Empties the text buffer.")
    static void promise03_empties(Checks c) {
        OddRulers x = Make.text("Kr0");
        x.clearText();
        c.due("nothing is left", x.errorPosition(), 0);
        Make.write(x, "K");
        c.due("only the new text", x.errorPosition(), OddRulers.NONE);
        Make.write(x, "x".repeat(120));
        x.clearText();
        for (int i = 1; i <= 120; i++) {
            c.due("append number " + i + " again", x.append('y'), i);
        }
    }

    @Says("Returns the previous length of the text.")
    static void promise03_lengths(Checks c) {
        c.due("of none", new OddRulers().clearText(), 0);
        c.due("of 1", Make.text("?").clearText(), 1);
        c.due("of 119", Make.text("?".repeat(119)).clearText(), 119);
        OddRulers x = Make.text("?".repeat(120));
        c.due("of 120", x.clearText(), 120);
        c.due("again", x.clearText(), 0);
    }

    @Says("which consists of everything but the text and the save slots")
    static void promise03_textIsNoState(Checks c) {
        OddRulers x = Make.lived();
        String before = Picture.of(x).substring("text -1".length());
        c.due("clearText()", x.clearText(), 8);
        c.due("the rulers stay", Picture.of(x).substring("text 0".length()), before);
        c.due("clearText is not remembered", x.undo(), 7);
        c.due("nor brought back", x.clearText(), 0);
        c.due("the slot stays", x.restore(0), 2);
    }

    // ---- promise 4

    @Says({"Checks the text.", "Returns the error position of the text; NONE if it is a case.",
        "A case as a text is the letter K, and then any number of commands;"})
    static void promise04_cases(Checks c) {
        due(c, "K", OddRulers.NONE);
        due(c, "Kt0", OddRulers.NONE);
        due(c, "Kr12m004x004c010t0s3g044", OddRulers.NONE);
        due(c, "K" + "t0".repeat(59), OddRulers.NONE);
        due(c, "K" + "t0".repeat(58) + "r12", OddRulers.NONE);
        c.unchanged(Make::livedLong, "errorPosition()", OddRulers::errorPosition);
    }

    @Says("A case as a text is the letter K")
    static void promise04_firstLetter(Checks c) {
        for (int code = 0; code <= 255; code++) {
            due(c, (char) code + "", code == 'K' ? OddRulers.NONE : 0);
            due(c, (char) code + "r12", code == 'K' ? OddRulers.NONE : 0);
        }
    }

    @Says("and then any number of commands")
    static void promise04_eachLetter(Checks c) {
        for (int code = 0; code <= 255; code++) {
            boolean begins = LETTERS.indexOf(code) >= 0;
            due(c, "K" + (char) code, begins ? 2 : 1);
            due(c, "Kr12" + (char) code, begins ? 5 : 4);
            due(c, "Kg150" + (char) code, begins ? 6 : 5);
            due(c, "K" + "t0".repeat(59) + (char) code, begins ? 120 : 119);
        }
    }

    @Says("if the text ends too soon, it is the length of the text")
    static void promise04_endsTooSoon(Checks c) {
        String[] cut = {"r", "r0", "r4", "m", "m3", "m34", "x", "x0", "x00", "c", "c3", "c34", "t", "s", "g", "g0", "g1",
            "g01", "g15"};
        due(c, "", 0);
        for (String end : cut) {
            due(c, "K" + end, 1 + end.length());
            due(c, "Ks6r40" + end, 6 + end.length());
        }
        due(c, "K" + "t0".repeat(59) + "t", 120);
        due(c, "K" + "r12".repeat(39) + "r1", 120);
    }

    @Says("The error position is the index of the first character that these rules do not allow at its place")
    static void promise04_firstOfSeveral(Checks c) {
        due(c, "kr99", 0);
        due(c, "K?r99", 1);
        due(c, "Kr99?", 2);
        due(c, "Kr12?r99", 4);
        due(c, "Kr12r99?", 5);
        due(c, "Kr12m9", 5);
        due(c, "KK", 1);
        due(c, "Kr020", 4);
        due(c, "Kt00", 3);
        due(c, "Ks11", 3);
        due(c, "Kg0100", 5);
        due(c, "K" + "t0".repeat(58) + "t9?", 118);
        due(c, "K" + "?".repeat(119), 1);
    }

    @Says("There are no blanks.")
    static void promise04_blanks(Checks c) {
        String text = "Kr12m004x004c010t0s3g044";
        for (int i = 0; i <= text.length(); i++) {
            due(c, text.substring(0, i) + " " + text.substring(i), i);
            due(c, text.substring(0, i) + "\n" + text.substring(i), i);
        }
    }

    @Says("(a digit is not allowed if no number that is allowed begins with it and those before it)")
    static void promise04_numbersNotAllowed(Checks c) {
        due(c, "Kr00", 3);
        due(c, "Kr01", 3);
        due(c, "Kr41", 3);
        due(c, "Kr50", 2);
        due(c, "Km4", 2);
        due(c, "Km341", 4);
        due(c, "Km350", 3);
        due(c, "Kc001", 4);
        due(c, "Kc341", 4);
        due(c, "Ks0", 2);
        due(c, "Ks7", 2);
        due(c, "Kg009", 3);
        due(c, "Kg151", 4);
        due(c, "Kg160", 3);
        due(c, "Kg200", 2);
    }

    @Says("a ruler is a digit (0 to 3), a place two digits (00 to 40)")
    static void promise04_rulersAndPlaces(Checks c) {
        for (String letter : new String[] {"m", "x"}) {
            numbers(c, "K" + letter, 1, 3, n -> n <= 3);
            for (int r = 0; r <= 3; r++) {
                numbers(c, "K" + letter + r, 2, OddRulers.NONE, n -> n <= 40);
            }
        }
        numbers(c, "Kc", 1, 3, n -> n <= 3);
    }

    @Says("r and two digits for a length (02 to 40): ruler()")
    static void promise04_ruler(Checks c) {
        numbers(c, "Kr", 2, OddRulers.NONE, n -> n >= 2 && n <= 40);
    }

    @Says("c, a ruler, and two digits for a length (02 to 40): cut()")
    static void promise04_cut(Checks c) {
        for (int r = 0; r <= 3; r++) {
            numbers(c, "Kc" + r, 2, OddRulers.NONE, n -> n >= 2 && n <= 40);
        }
    }

    @Says("t and a ruler: turn()")
    static void promise04_turn(Checks c) {
        numbers(c, "Kt", 1, OddRulers.NONE, n -> n <= 3);
    }

    @Says("s and a digit (1 to 6): set() of setting 0")
    static void promise04_layings(Checks c) {
        numbers(c, "Ks", 1, OddRulers.NONE, n -> n >= 1 && n <= 6);
    }

    @Says("g and three digits (010 to 150): set() of setting 1")
    static void promise04_range(Checks c) {
        numbers(c, "Kg", 3, OddRulers.NONE, n -> n >= 10 && n <= 150);
    }

    /** Behind the begin, each character that can stand at each place of a number, told by trying all numbers. */
    private static void numbers(Checks c, String begin, int digits, int behind, IntPredicate allowed) {
        int all = (int) Math.pow(10, digits);
        for (int length = 0; length < digits; length++) {
            for (int before = 0; before < (int) Math.pow(10, length); before++) {
                String start = length == 0 ? "" : String.format("%0" + length + "d", before);
                if (!beginsOne(start, digits, all, allowed)) {
                    continue;
                }
                for (int code = 0; code <= 255; code++) {
                    String number = start + (char) code;
                    int at = begin.length() + length;
                    boolean good = beginsOne(number, digits, all, allowed);
                    due(c, begin + number, !good ? at : length + 1 < digits ? at + 1 : behind);
                }
            }
        }
    }

    private static boolean beginsOne(String start, int digits, int all, IntPredicate allowed) {
        for (int n = 0; n < all; n++) {
            if (allowed.test(n) && String.format("%0" + digits + "d", n).startsWith(start)) {
                return true;
            }
        }
        return false;
    }

    private static void due(Checks c, String text, int want) {
        c.due("errorPosition() of '" + text + "'", Make.text(text).errorPosition(), want);
    }

    // ---- promise 5

    @Says({"and then does the commands of the text.", "The text is read from left to right.",
        "m, a ruler, and a place: mark(), put; x, a ruler, and a place: mark(), taken away;"})
    static void promise05_commands(Checks c) {
        OddRulers x = Make.text("Kr12m004m009x004r40m139x120c105m102t0t1s3g044");
        c.due("load()", x.load(), 0);
        c.due("ruler 0", Picture.row(x, 0), "|..|........|");
        c.due("ruler 1", Picture.row(x, 1), "|..|.|");
        c.due("setting 0", x.about(7), 3);
        c.due("setting 1", x.about(8), 44);
        c.due("too early", loaded("Km004r12m004x005"), 1);
        c.due("too late", loaded("Kr12c004m005"), 1);
    }

    @Says({"Returns the number of commands that are left out.", "Commands that would throw an exception are left out."})
    static void promise05_leftOut(Checks c) {
        c.due("K alone", loaded("K"), 0);
        c.due("no rulers", loaded("Km000x000c002t0m340x340c340t3"), 8);
        c.due("a fifth ruler", loaded("Kr02r03r04r05r06"), 1);
        c.due("and a sixth", loaded("Kr02r03r04r05r06r07"), 2);
        c.due("at the ends and beyond, put", loaded("Kr05m000m005m006m040"), 2);
        c.due("inside, at the ends and beyond, taken away", loaded("Kr05x001x004x000x005x006x040"), 4);
        c.due("cut to more", loaded("Kr05c006c040c005c002c003"), 3);
        c.due("an end that is no place any more", loaded("Kr05c004x005x004"), 2);
        c.due("the next ruler", loaded("Kr05m100x100c102t1"), 4);
        c.due("settings never", loaded("Ks1s6g010g150"), 0);
        c.due("all that there is room for", loaded("K" + "t0".repeat(59)), 59);
        OddRulers x = Make.text("Kr02r03r04r05r06m102m103c104t1");
        c.due("load()", x.load(), 2);
        c.due("the others are done", Picture.row(x, 1), "||.|");
    }

    private static int loaded(String text) {
        return Make.text(text).load();
    }

    @Says("Makes everything as in a new object")
    static void promise05_asNew(Checks c) {
        OddRulers x = Make.livedLong();
        Make.write(x, "Kr09m003");
        c.due("load()", x.load(), 0);
        OddRulers y = new OddRulers();
        y.ruler(9);
        y.mark(0, 3, true);
        c.due("as a new one", Picture.of(x).substring("text -1".length()), Picture.of(y).substring("text 0".length()));
        Make.write(x, "K");
        c.due("load() of K", x.load(), 0);
        c.due("no rulers", x.about(0), 0);
        c.due("setting 0", x.about(7), 2);
        c.due("setting 1", x.about(8), 40);
    }

    @Says({"Behind it no state is remembered, and both save slots are empty.", "load and restore are not actions."})
    static void promise05_nothingRemembered(Checks c) {
        c.refused(TextTest::loadedLate, "undo()", Checks.STATE, OddRulers::undo);
        c.refused(TextTest::loadedLate, "restore(0)", Checks.STATE, x -> x.restore(0));
        c.refused(TextTest::loadedLate, "restore(1)", Checks.STATE, x -> x.restore(1));
        OddRulers x = loadedLate();
        x.mark(0, 1, true);
        c.due("the first action behind it", x.undo(), 0);
        c.due("as loaded", Picture.row(x, 0), "|....|...|");
        c.due("save(0)", x.save(0), 1);
        c.due("restore(0)", x.restore(0), 1);
        c.due("slot 1 stays empty", Checks.answer(x, y -> y.restore(1)), Checks.STATE);
    }

    private static OddRulers loadedLate() {
        OddRulers x = Make.livedLong();
        x.load();
        return x;
    }

    @Says("Keeps the text, also if it throws the exception.")
    static void promise05_keepsTheText(Checks c) {
        OddRulers x = Make.text("Kr12m004");
        x.load();
        c.due("still a case", x.errorPosition(), OddRulers.NONE);
        x.mark(0, 4, false);
        c.due("load() again", x.load(), 0);
        c.due("as before", Picture.row(x, 0), "|...|.......|");
        c.due("clearText()", x.clearText(), 8);
        OddRulers y = Make.text("Kr1");
        c.due("load()", Checks.answer(y, OddRulers::load), Checks.STATE);
        y.append('2');
        c.due("mended", y.load(), 0);
        c.due("its length", y.rulerOf(0, 0), 12);
    }

    @Says("Throws `IllegalStateException` if the text is not a case")
    static void promise05_noCase(Checks c) {
        String[] wrong = {"", "k", "r12", " K", "K ", "Kr", "Kr1", "Kr01", "Kr12m0041", "Kr12?", "K" + "t0".repeat(59) + "t"};
        for (String text : wrong) {
            c.refused(() -> livedWith(text), "load() of '" + text + "'", Checks.STATE, OddRulers::load);
        }
    }

    private static OddRulers livedWith(String text) {
        OddRulers x = Make.livedLong();
        Make.write(x, text);
        return x;
    }
}
