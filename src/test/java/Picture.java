import java.util.function.Supplier;

/** What can be seen of an object. */
final class Picture {
    private Picture() {
    }

    /** The rulers and the settings, and whether the text is a case. */
    static String of(OddRulers x) {
        StringBuilder picture = new StringBuilder("text ").append(x.errorPosition());
        for (int what = 0; what <= 8; what++) {
            picture.append(' ').append(x.about(what));
        }
        for (int r = 0; r < x.about(0); r++) {
            picture.append(" ruler ").append(row(x, r));
        }
        return picture.toString();
    }

    static String row(OddRulers x, int r) {
        StringBuilder row = new StringBuilder();
        for (int p = 0; p <= x.rulerOf(r, 0); p++) {
            row.append(x.isMarked(r, p) == 1 ? '|' : '.');
        }
        return row.toString();
    }

    /** All there is: each remembered state, both slots and the text too, each looked at in an object of its own. */
    static String whole(Supplier<OddRulers> make) {
        StringBuilder picture = new StringBuilder(of(make.get()));
        boolean more = true;
        for (int undone = 1; more; undone++) {
            OddRulers x = make.get();
            String last = "";
            for (int i = 0; i < undone; i++) {
                last = Checks.answer(x, OddRulers::undo);
            }
            more = !last.startsWith("throws");
            picture.append("\nundo ").append(last).append(' ').append(of(x));
        }
        for (int slot = 0; slot < 2; slot++) {
            int s = slot;
            picture.append("\nslot ").append(behind(make.get(), x -> x.restore(s)));
        }
        picture.append("\nload ").append(behind(make.get(), OddRulers::load));
        return picture.append("\ntext ").append(make.get().clearText()).toString();
    }

    private static String behind(OddRulers x, Checks.Call call) {
        return Checks.answer(x, call) + " " + of(x);
    }
}
