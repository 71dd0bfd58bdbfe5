import java.util.regex.Pattern;

/** Promise 24: scripts. */
final class ScriptTest {
    private ScriptTest() {
    }

    @Says({"Runs a script on a copy of the state.", "Returns the index, from 0, of the first command that fails; NONE if all "
        + "succeed.", "`n`: number of commands, 1 to 3"})
    static void promise24_severalCommands(Checks c) {
        OddRulers x = Make.two();
        c.due("one behind the other", x.runScript(3, 100020_200601_800601L), OddRulers.NONE);
        c.due("a new ruler is marked", x.runScript(3, 100020_220601_820601L), OddRulers.NONE);
        c.due("fails first", x.runScript(3, 100001_220601_820601L), 0);
        c.due("fails second", x.runScript(3, 100020_230601_820601L), 1);
        c.due("fails third", x.runScript(3, 100020_220601_820600L), 2);
        c.due("fails second and third", x.runScript(3, 100020_230601_820600L), 1);
        c.due("all fail", x.runScript(3, 999999_999999_999999L), 0);
        c.due("two of two", x.runScript(2, 400000_800301L), OddRulers.NONE);
        c.due("turned, not there", x.runScript(2, 400000_800401L), 1);
        c.due("a third and a fourth, no fifth", x.runScript(3, 100020_100020_100020L), 2);
        c.due("cut, a place gone", x.runScript(2, 300008_800900L), 1);
        c.due("a greater setting", x.runScript(2, 500004_700040L), OddRulers.NONE);
        c.due("a smaller range", x.runScript(2, 510010_900000L), OddRulers.NONE);
        c.due("no trace of the runs before", Picture.of(x), Picture.of(Make.two()));
    }

    @Says("on a copy of the state")
    static void promise24_onACopy(Checks c) {
        long[] scripts = {100020, 200601, 300008, 400000, 500004, 510010, 602000, 999999};
        for (long script : scripts) {
            c.unchanged(Make::livedLong, "runScript(1, " + script + ")", x -> x.runScript(1, script));
        }
        c.unchanged(Make::livedLong, "runScript(3)", x -> x.runScript(3, 100020_220601_500005L));
        c.unchanged(OddRulers::new, "runScript(2)", x -> x.runScript(2, 100020_400000L));
    }

    @Says({"A script has 1 to 3 commands; each is a group of six decimal digits d1 to d6, and the first command is the "
        + "highest group of the number (with zeros before it, if it has fewer digits).",
        "`script`: the commands, a number of at most 6 * n digits (0 or more)"})
    static void promise24_digits(Checks c) {
        OddRulers x = Make.two();
        c.due("zero", x.runScript(1, 0), 0);
        c.due("zero in three", x.runScript(3, 0), 0);
        c.due("zeros before it in two", x.runScript(2, 400000), 0);
        c.due("zeros before it in three", x.runScript(3, 100020_400000L), 0);
        c.due("five digits", x.runScript(1, 40000), 0);
        c.due("five digits and six", x.runScript(2, 40000_400000L), 0);
        c.due("six digits", x.runScript(1, 999999), 0);
        c.due("twelve digits", x.runScript(2, 999999999999L), 0);
        c.due("eighteen digits", x.runScript(3, 999999999999999999L), 0);
        c.due("the highest first, of two", x.runScript(2, 900099_900000L), 1);
        c.due("the highest first, of three", x.runScript(3, 900099_900099_900000L), 2);
    }

    @Says("Throws `IllegalArgumentException` if n is out of range, or if script is negative or has more than 6 * n digits")
    static void promise24_wrong(Checks c) {
        for (int n : new int[] {0, 4, 5, -1, -3, Integer.MIN_VALUE, Integer.MAX_VALUE}) {
            wrong(c, n, 0);
            wrong(c, n, 400000);
            wrong(c, n, -1);
            wrong(c, n, Long.MAX_VALUE);
        }
        for (int n = 1; n <= 3; n++) {
            wrong(c, n, -1);
            wrong(c, n, -400000);
            wrong(c, n, Long.MIN_VALUE);
            wrong(c, n, Long.MAX_VALUE);
            wrong(c, n, 1000000000000000000L);
        }
        wrong(c, 1, 1000000);
        wrong(c, 1, 4400000);
        wrong(c, 1, 400000 + (1L << 32));
        wrong(c, 1, 999999999999L);
        wrong(c, 2, 1000000000000L);
        wrong(c, 2, 999999999999999999L);
    }

    private static void wrong(Checks c, int n, long script) {
        c.refused(Make::livedLong, "runScript(" + n + ", " + script + ")", Checks.ARGUMENT, x -> x.runScript(n, script));
    }

    // ---- each group: the rulers are 12 (4, 9) and 7 (2), and 22 lengths of 40 can be laid, with two gaps

    @Says({"and so does any other group (also one with another digit where a 0 is written, a b above 1, or a ttt above 200).",
        "All are decimal numbers."})
    static void promise24_noCommand(Checks c) {
        groups(c, 0, "never");
    }

    @Says({"1 0 0 0 n n: ruler(nn).", "The commands 1 to 5 fail if the method would throw an exception;"})
    static void promise24_ruler(Checks c) {
        groups(c, 1, "1000(0[2-9]|[123][0-9]|40)");
        c.due("a fifth", Make.four().runScript(1, 100005), 0);
        c.due("a fourth", Make.two().runScript(2, 100002_100040L), OddRulers.NONE);
    }

    @Says({"2 r p p 0 b: mark(r, pp, b is 1).", "commands with rulers or places that do not exist fail"})
    static void promise24_mark(Checks c) {
        groups(c, 2, "20(0[0-9]|1[0-2])01|210[0-7]01|20(0[1-9]|1[01])00|210[1-6]00");
        c.due("put", Make.two().runScript(2, 200501_800501L), OddRulers.NONE);
        c.due("taken away", Make.two().runScript(2, 200400_800400L), OddRulers.NONE);
    }

    @Says("3 r 0 0 n n: cut(r, nn).")
    static void promise24_cut(Checks c) {
        groups(c, 3, "3000(0[2-9]|1[0-2])|31000[2-7]");
        c.due("cut to 11", Make.two().runScript(2, 300011_801101L), OddRulers.NONE);
        c.due("and no more than that", Make.two().runScript(2, 300011_300012L), 1);
    }

    @Says("4 r 0 0 0 0: turn(r).")
    static void promise24_turn(Checks c) {
        groups(c, 4, "4[01]0000");
        c.due("turned", Make.two().runScript(3, 400000_800301_800801L), OddRulers.NONE);
        c.due("no rulers", new OddRulers().runScript(1, 400000), 0);
    }

    @Says("5 w 0 v v v: set(w, vvv).")
    static void promise24_set(Checks c) {
        groups(c, 5, "50000[1-6]|510(0[1-9][0-9]|1[0-4][0-9]|150)");
        c.due("setting 0 is set", Make.two().runScript(2, 500004_700040L), OddRulers.NONE);
        c.due("setting 1 is set", Make.two().runScript(2, 510150_700023L), 1);
    }

    @Says("6 0 t t t n: succeeds if fewest(ttt, 0) is at most n and not NONE.")
    static void promise24_fewest(Checks c) {
        OddRulers[] all = {Make.two(), new OddRulers(), Make.set(1, 10, Make.row(40)), Make.rulers(Make.row(40, 1))};
        for (OddRulers x : all) {
            for (int t = 0; t <= 200; t++) {
                for (int n = 0; n <= 9 && t % 40 < 2; n++) {
                    int fewest = x.fewest(t, 0);
                    boolean good = fewest != OddRulers.NONE && fewest <= n;
                    c.due("fewest(" + t + ", 0) is " + n, x.runScript(1, 600000 + 10 * t + n), good ? OddRulers.NONE : 0);
                }
            }
        }
        OddRulers y = Make.two();
        StringBuilder good = new StringBuilder("never");
        for (int t = 0; t <= 200; t++) {
            if (y.fewest(t, 0) <= 9) {
                good.append(String.format("|60%03d[%d-9]", t, y.fewest(t, 0)));
            }
        }
        groups(c, 6, good.toString());
        OddRulers forty = Make.rulers(Make.row(40));
        c.due("200 in 5", forty.runScript(1, 602005), OddRulers.NONE);
        c.due("200 in 4", forty.runScript(1, 602004), 0);
        c.due("201", forty.runScript(1, 602019), 0);
        c.due("240", forty.runScript(1, 602409), 0);
        c.due("what cannot be laid", forty.runScript(1, 600019), 0);
        c.due("0 in 0", forty.runScript(1, 600000), OddRulers.NONE);
    }

    @Says("7 0 0 n n n: succeeds if about(5) is at least nnn.")
    static void promise24_lengths(Checks c) {
        groups(c, 7, "7000([01][0-9]|2[0-2])");
        OddRulers all = Make.set(6, 150, Make.fullRow(40));
        c.due("150 of 150", all.runScript(1, 700150), OddRulers.NONE);
        c.due("151 of 150", all.runScript(1, 700151), 0);
        c.due("0 of none", new OddRulers().runScript(1, 700000), OddRulers.NONE);
        c.due("1 of none", new OddRulers().runScript(1, 700001), 0);
    }

    @Says("8 r p p 0 b: succeeds if isMarked(r, pp) is b.")
    static void promise24_isMarked(Checks c) {
        groups(c, 8, "80(00|04|09|12)01|80(0[1235678]|1[01])00|810[027]01|810[13456]00");
    }

    @Says("9 0 0 0 n n: succeeds if there are at most nn gaps.")
    static void promise24_gaps(Checks c) {
        groups(c, 9, "9000(0[2-9]|[1-9][0-9])");
        OddRulers none = Make.set(6, 10, Make.row(3, 1));
        c.due("no gaps", none.runScript(1, 900000), OddRulers.NONE);
        c.due("one gap", new OddRulers().runScript(1, 900000), 0);
        c.due("at most one gap", new OddRulers().runScript(1, 900001), OddRulers.NONE);
    }

    /** All groups with this first digit: those of the pattern succeed, and no others. */
    private static void groups(Checks c, int first, String pattern) {
        Pattern good = Pattern.compile(pattern);
        OddRulers x = Make.two();
        c.due("runScript(1, " + first * 100000 + ")", x.runScript(1, first * 100000),
                good.matcher(String.format("%d00000", first)).matches() ? OddRulers.NONE : 0);
        for (int rest = 0; rest < 100000; rest++) {
            if (rest % 400 == 0) {
                x = Make.two();
            }
            String group = first + String.valueOf(100000 + rest).substring(1);
            int got = x.runScript(1, first * 100000 + rest);
            int want = good.matcher(group).matches() ? OddRulers.NONE : 0;
            if (got != want) {
                c.due("runScript(1, " + group + ")", got, want);
            }
        }
    }
}
