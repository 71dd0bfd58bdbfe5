import java.util.Random;

/** Long runs of calls, right and wrong ones, of which the model answers each too. */
final class RandomTest {
    private static final int[] ODD_NUMBERS = {-1, -2, Integer.MIN_VALUE, Integer.MAX_VALUE, 41, 64, 201, 256, 1000};

    private static final int MOST_CALLS = 512;

    private final Random random;
    private final OddRulers x = new OddRulers();
    private final Model model = new Model();
    private final Checks checks;
    private int calls;

    private RandomTest(long seed, Checks checks) {
        this.random = new Random(seed);
        this.checks = checks;
    }

    static void random_runsAsTheModel(Checks c) {
        for (int seed = 1; seed <= 200 && c.wrong() == 0; seed++) {
            RandomTest run = new RandomTest(seed, c);
            int actions = 1 + seed % 4;
            // The last call may be a text of up to 120 characters.
            for (int i = 0; run.calls <= MOST_CALLS - 130; i++) {
                run.call(seed + "." + i, actions);
            }
        }
    }

    static void random_textsAsTheModel(Checks c) {
        Random random = new Random(77);
        String signs = "KrmxctsgKrmxctsg0123401234056789 ";
        for (int i = 0; i < 3000; i++) {
            OddRulers x = new OddRulers();
            Model model = new Model();
            String text = i % 2 == 0 ? goodText(random, 1 + random.nextInt(30)) : "K";
            int more = random.nextInt(6);
            for (int k = 0; k < more; k++) {
                char sign = signs.charAt(random.nextInt(signs.length()));
                int at = random.nextInt(text.length() + 1);
                text = text.substring(0, at) + sign + text.substring(at);
            }
            for (int k = 0; k < text.length() && k < 120; k++) {
                x.append(text.charAt(k));
                model.append(text.charAt(k));
            }
            c.due("errorPosition() of " + text, x.errorPosition(), model.errorPosition());
            c.due("load() of " + text, Checks.answer(x::load), Checks.answer(model::load));
            for (int what = 0; what <= 8; what++) {
                c.due("about(" + what + ") of " + text, x.about(what), model.about(what));
            }
        }
    }

    private static String goodText(Random random, int commands) {
        StringBuilder text = new StringBuilder("K");
        for (int i = 0; i < commands && text.length() < 116; i++) {
            int r = random.nextInt(4);
            int p = random.nextInt(41);
            int n = 2 + random.nextInt(39);
            switch (random.nextInt(9)) {
                case 0: case 1: text.append(String.format("r%02d", n)); break;
                case 2: case 3: case 4: text.append(String.format("m%d%02d", r, p)); break;
                case 5: text.append(String.format("x%d%02d", r, p)); break;
                case 6: text.append(String.format("c%d%02d", r, n)); break;
                case 7: text.append(String.format("t%d", r)); break;
                default: text.append(random.nextBoolean() ? "s" + (1 + r) : String.format("g%03d", 10 + 3 * p)); break;
            }
        }
        return text.toString();
    }

    private void call(String at, int actions) {
        if (random.nextInt(10) < actions * 2) {
            act(at);
        } else {
            ask(at);
        }
    }

    /** A number from 0 to below the bound, or now and then one that may be wrong. */
    private int below(int bound) {
        if (random.nextInt(25) == 0) {
            int i = random.nextInt(ODD_NUMBERS.length + 2);
            return i < ODD_NUMBERS.length ? ODD_NUMBERS[i] : bound + i - ODD_NUMBERS.length;
        }
        return random.nextInt(bound);
    }

    private int ruler() {
        return below(Math.max(1, model.about(0)));
    }

    private int place(int r) {
        return below(r >= 0 && r < model.about(0) ? model.rulerOf(r, 0) + 1 : 41);
    }

    private void act(String at) {
        int r = ruler();
        int p = place(r);
        boolean on = random.nextInt(3) != 0;
        switch (random.nextInt(14)) {
            case 0:
                int n = 2 + below(39);
                due(at + " ruler(" + n + ")", Checks.answer(() -> x.ruler(n)), Checks.answer(() -> model.ruler(n)));
                break;
            case 1:
                due(at + " cut(" + r + ", " + p + ")", Checks.answer(() -> x.cut(r, p)),
                        Checks.answer(() -> model.cut(r, p)));
                break;
            case 2:
                due(at + " turn(" + r + ")", Checks.answer(() -> x.turn(r)), Checks.answer(() -> model.turn(r)));
                break;
            case 3:
                int what = below(2);
                int v = what == 0 ? 1 + below(6) : 10 + below(141);
                due(at + " set(" + what + ", " + v + ")", Checks.answer(() -> x.set(what, v)),
                        Checks.answer(() -> model.set(what, v)));
                break;
            case 4:
                due(at + " undo()", Checks.answer(x::undo), Checks.answer(model::undo));
                break;
            case 5:
                slot(at);
                break;
            case 6:
                text(at);
                break;
            default:
                due(at + " mark(" + r + ", " + p + ", " + on + ")", Checks.answer(() -> x.mark(r, p, on)),
                        Checks.answer(() -> model.mark(r, p, on)));
                break;
        }
    }

    private void slot(String at) {
        int slot = below(2);
        if (random.nextInt(3) == 0) {
            due(at + " restore(" + slot + ")", Checks.answer(() -> x.restore(slot)),
                    Checks.answer(() -> model.restore(slot)));
        } else {
            due(at + " save(" + slot + ")", Checks.answer(() -> x.save(slot)), Checks.answer(() -> model.save(slot)));
        }
    }

    private void text(String at) {
        due(at + " clearText()", x.clearText(), model.clearText());
        String text = goodText(random, random.nextInt(25));
        for (char c : text.toCharArray()) {
            due(at + " append(" + (int) c + ")", x.append(c), model.append(c));
        }
        int c = random.nextInt(10) == 0 ? random.nextInt(300) : 't';
        due(at + " append(" + c + ")", Checks.answer(() -> x.append(c)), Checks.answer(() -> model.append(c)));
        due(at + " errorPosition()", x.errorPosition(), model.errorPosition());
        if (random.nextInt(3) == 0) {
            due(at + " append(48)", x.append(48), model.append(48));
            due(at + " load()", Checks.answer(x::load), Checks.answer(model::load));
        }
    }

    private void ask(String at) {
        int r = ruler();
        int p = place(r);
        int t = below(201);
        int k = below(5);
        int what = below(2);
        switch (random.nextInt(14)) {
            case 0: case 1:
                int number = below(9);
                due(at + " about(" + number + ")", Checks.answer(() -> x.about(number)),
                        Checks.answer(() -> model.about(number)));
                break;
            case 2:
                int one = below(6);
                due(at + " rulerOf(" + r + ", " + one + ")", Checks.answer(() -> x.rulerOf(r, one)),
                        Checks.answer(() -> model.rulerOf(r, one)));
                break;
            case 3:
                due(at + " isMarked(" + r + ", " + p + ")", Checks.answer(() -> x.isMarked(r, p)),
                        Checks.answer(() -> model.isMarked(r, p)));
                break;
            case 4:
                int field = below(4);
                int span = below(12);
                due(at + " span(" + r + ", " + span + ", " + field + ")", Checks.answer(() -> x.span(r, span, field)),
                        Checks.answer(() -> model.span(r, span, field)));
                break;
            case 5:
                due(at + " gap(" + k + ", " + what + ")", Checks.answer(() -> x.gap(k, what)),
                        Checks.answer(() -> model.gap(k, what)));
                break;
            case 6:
                due(at + " fewest(" + t + ", " + what + ")", Checks.answer(() -> x.fewest(t, what)),
                        Checks.answer(() -> model.fewest(t, what)));
                break;
            case 7:
                int part = below(4);
                due(at + " laying(" + t + ", " + k + ", " + part + ")", Checks.answer(() -> x.laying(t, k, part)),
                        Checks.answer(() -> model.laying(t, k, part)));
                break;
            case 8:
                due(at + " why(" + t + ")", Checks.answer(() -> x.why(t)), Checks.answer(() -> model.why(t)));
                break;
            case 9:
                due(at + " bestMark(" + r + ", " + what + ")", Checks.answer(() -> x.bestMark(r, what)),
                        Checks.answer(() -> model.bestMark(r, what)));
                break;
            case 10:
                due(at + " needless(" + r + ")", Checks.answer(() -> x.needless(r)),
                        Checks.answer(() -> model.needless(r)));
                break;
            default:
                askMore(at, r);
                break;
        }
    }

    private void askMore(String at, int r) {
        switch (random.nextInt(4)) {
            case 0:
                due(at + " layings()", Checks.answer(x::layings), Checks.answer(model::layings));
                break;
            case 1:
                int other = ruler();
                boolean turned = random.nextBoolean();
                due(at + " twin(" + r + ", " + other + ", " + turned + ")",
                        Checks.answer(() -> x.twin(r, other, turned)),
                        Checks.answer(() -> model.twin(r, other, turned)));
                break;
            case 2:
                int n = 1 + below(3);
                long script = script(n < 1 || n > 3 ? 2 : n);
                due(at + " runScript(" + n + ", " + script + ")", Checks.answer(() -> x.runScript(n, script)),
                        Checks.answer(() -> model.runScript(n, script)));
                break;
            default:
                long seed = random.nextLong();
                int m = 1 + below(60);
                due(at + " simulate(" + seed + ", " + m + ")", Checks.answer(() -> x.simulate(seed, m)),
                        Checks.answer(() -> model.simulate(seed, m)));
                break;
        }
    }

    private long script(int n) {
        long script = 0;
        for (int i = 0; i < n; i++) {
            int r = random.nextInt(4);
            int p = random.nextInt(41);
            int on = random.nextInt(2);
            long[] groups = {100000 + p, 200000 + 10000 * r + 100 * p + on, 300000 + 10000 * r + p, 400000 + 10000 * r,
                500000 + on * 10000 + (on == 0 ? p % 8 : 4 * p), 600000 + 10 * random.nextInt(210) + p % 10,
                700000 + 3 * p, 800000 + 10000 * r + 100 * p + on, 900000 + p % 10, random.nextInt(1000000)};
            long group = groups[random.nextInt(groups.length)];
            if (random.nextInt(12) == 0) {
                group = (group + (long) Math.pow(10, random.nextInt(6))) % 1000000;
            }
            script = script * 1000000 + group;
        }
        return random.nextInt(40) == 0 ? -script : script;
    }

    private void due(String call, Object got, Object want) {
        calls++;
        checks.due(call, got, want);
    }
}
