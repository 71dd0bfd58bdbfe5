/** Makes objects for tests. */
final class Make {
    private Make() {
    }

    static OddRulers text(String text) {
        OddRulers x = new OddRulers();
        write(x, text);
        return x;
    }

    static void write(OddRulers x, String text) {
        x.clearText();
        for (char c : text.toCharArray()) {
            x.append(c);
        }
    }

    /** An object with these rulers; each has its length first, and then its inner marks. */
    static OddRulers rulers(int[]... rulers) {
        OddRulers x = new OddRulers();
        for (int[] row : rulers) {
            int r = x.ruler(row[0]);
            for (int i = 1; i < row.length; i++) {
                x.mark(r, row[i], true);
            }
        }
        return x;
    }

    static int[] row(int... numbers) {
        return numbers;
    }
}
