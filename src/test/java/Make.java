import java.util.function.Supplier;

/** Makes objects for tests. */
final class Make {
    /** Numbers that no argument of the face may be, but for seeds and scripts. */
    static final int[] FAR_OUT = {Integer.MIN_VALUE, Integer.MIN_VALUE + 1, -64, -1, 1000, 65536, Integer.MAX_VALUE - 1,
        Integer.MAX_VALUE};

    private Make() {
    }

    static OddRulers text(String text) {
        OddRulers x = new OddRulers();
        write(x, text);
        return x;
    }

    static void write(OddRulers x, String text) {
        x.clearText();
        for (char c : text.toCharArray()) {
            x.append(c);
        }
    }

    /** An object with these rulers; each has its length first, and then its inner marks. */
    static OddRulers rulers(int[]... rulers) {
        OddRulers x = new OddRulers();
        for (int[] row : rulers) {
            int r = x.ruler(row[0]);
            for (int i = 1; i < row.length; i++) {
                x.mark(r, row[i], true);
            }
        }
        return x;
    }

    /** An object with the settings that are wanted, and these rulers. */
    static OddRulers set(int layings, int range, int[]... rulers) {
        OddRulers x = rulers(rulers);
        x.set(0, layings);
        x.set(1, range);
        return x;
    }

    static int[] row(int... numbers) {
        return numbers;
    }

    /** A ruler with a mark at each place. */
    static int[] fullRow(int length) {
        int[] row = new int[length];
        row[0] = length;
        for (int p = 1; p < length; p++) {
            row[p] = p;
        }
        return row;
    }

    static OddRulers two() {
        return rulers(row(12, 4, 9), row(7, 2));
    }

    static OddRulers four() {
        return rulers(row(5, 2), row(40), row(2), row(9, 8));
    }

    /** An object that has lived: two rulers, 12 and 7 long, a text, eight states remembered, slot 0 filled. */
    static OddRulers lived() {
        OddRulers x = two();
        x.save(0);
        x.mark(0, 6, true);
        x.set(0, 3);
        x.set(1, 50);
        write(x, "Kr09m005");
        return x;
    }

    /** The same with as many states remembered as there can be, and both slots filled. */
    static OddRulers livedLong() {
        OddRulers x = livedLongBeforeTurn();
        x.save(1);
        x.turn(0);
        return x;
    }

    static OddRulers livedLongBeforeTurn() {
        OddRulers x = lived();
        for (int p = 1; p <= 6; p++) {
            x.mark(1, p, true);
        }
        return x;
    }

    static Supplier<OddRulers> texted(String text) {
        return () -> text(text);
    }
}
