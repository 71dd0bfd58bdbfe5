/** All that can be seen of an object without changing it. */
final class Picture {
    private Picture() {
    }

    static String of(OddRulers x) {
        StringBuilder picture = new StringBuilder("text ").append(x.errorPosition());
        for (int what = 0; what <= 8; what++) {
            picture.append(' ').append(x.about(what));
        }
        for (int r = 0; r < x.about(0); r++) {
            picture.append(" ruler ").append(row(x, r));
        }
        return picture.toString();
    }

    static String row(OddRulers x, int r) {
        StringBuilder row = new StringBuilder();
        for (int p = 0; p <= x.rulerOf(r, 0); p++) {
            row.append(x.isMarked(r, p) == 1 ? '|' : '.');
        }
        return row.toString();
    }
}
