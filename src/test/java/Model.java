import java.util.ArrayDeque;
import java.util.ArrayList;
import java.util.Arrays;
import java.util.Deque;
import java.util.List;
import java.util.Map;
import java.util.NoSuchElementException;
import java.util.TreeMap;
import java.util.TreeSet;
import java.util.regex.Matcher;
import java.util.regex.Pattern;

/** The document once more, told as plainly as it goes and in other ways than the program does it. */
final class Model {
    private static final int FARTHEST = 200;
    private static final String PLACE = "([0-3][0-9]|40)";
    private static final String LENGTH = "(0[2-9]|[1-3][0-9]|40)";
    private static final Pattern COMMAND = Pattern.compile("r" + LENGTH + "|[mx][0-3]" + PLACE + "|c[0-3]" + LENGTH
            + "|t[0-3]|s[1-6]|g(0[1-9][0-9]|1[0-4][0-9]|150)");
    private static final Pattern CASE = Pattern.compile("K(" + COMMAND.pattern() + ")*");

    /** A ruler: its last mark is its length. */
    private static final class Row extends TreeSet<Integer> {
        private static final long serialVersionUID = 1L;

        int length() {
            return last();
        }

        Row inner() {
            Row inner = new Row();
            inner.addAll(this);
            inner.remove(first());
            inner.remove(inner.last());
            return inner;
        }

        Row turned() {
            Row turned = new Row();
            for (int p : this) {
                turned.add(length() - p);
            }
            return turned;
        }

        List<int[]> spans() {
            List<int[]> spans = new ArrayList<>();
            for (int low : this) {
                for (int high : tailSet(low, false)) {
                    spans.add(new int[] {low, high});
                }
            }
            return spans;
        }

        Map<Integer, Integer> lengths() {
            Map<Integer, Integer> lengths = new TreeMap<>();
            for (int[] span : spans()) {
                lengths.merge(span[1] - span[0], 1, Integer::sum);
            }
            return lengths;
        }
    }

    /** Which lengths spans of these lengths lay, found by asking again and again until nothing gets shorter. */
    static final class Lengths {
        private final int[] fewest = new int[FARTHEST + 1];

        Lengths(int[] steps) {
            this(0, steps);
        }

        Lengths(int from, int[] steps) {
            Arrays.fill(fewest, 999);
            fewest[from] = 0;
            boolean more = true;
            while (more) {
                more = false;
                for (int t = 0; t <= FARTHEST; t++) {
                    for (int step : steps) {
                        for (int s : new int[] {t - step, t + step}) {
                            if (s >= 0 && s <= FARTHEST && fewest[s] + 1 < fewest[t]) {
                                fewest[t] = fewest[s] + 1;
                                more = true;
                            }
                        }
                    }
                }
            }
        }

        int fewest(int t) {
            return t < 0 || t > FARTHEST || fewest[t] == 999 ? -1 : fewest[t];
        }
    }

    private static final class State {
        private final List<Row> rulers = new ArrayList<>();
        private final int[] settings = {2, 40};

        State copied() {
            State copy = new State();
            for (Row row : rulers) {
                Row other = new Row();
                other.addAll(row);
                copy.rulers.add(other);
            }
            copy.settings[0] = settings[0];
            copy.settings[1] = settings[1];
            return copy;
        }
    }

    private State state = new State();
    private final StringBuilder text = new StringBuilder();
    private final Deque<State> remembered = new ArrayDeque<>();
    private final State[] slots = new State[2];

    // ---- text

    int append(int c) {
        argument(c >= 0 && c <= 255);
        state(text.length() < 120);
        text.append((char) c);
        return text.length();
    }

    int clearText() {
        int length = text.length();
        text.setLength(0);
        return length;
    }

    int errorPosition() {
        for (int i = 1; i <= text.length(); i++) {
            Matcher matcher = CASE.matcher(text.substring(0, i));
            if (!matcher.matches() && !matcher.hitEnd()) {
                return i - 1;
            }
        }
        return CASE.matcher(text).matches() ? -1 : text.length();
    }

    int load() {
        state(CASE.matcher(text).matches());
        state = new State();
        int out = 0;
        Matcher matcher = COMMAND.matcher(text.substring(1));
        while (matcher.find()) {
            if (!succeeds(matcher.group())) {
                out++;
            }
        }
        remembered.clear();
        slots[0] = null;
        slots[1] = null;
        return out;
    }

    private boolean succeeds(String command) {
        int r = command.charAt(1) - '0';
        int rest = command.length() > 2 ? Integer.parseInt(command.substring(2)) : 0;
        int all = Integer.parseInt(command.substring(1));
        switch (command.charAt(0)) {
            case 'r': return goes(() -> ruler(all));
            case 'm': return goes(() -> mark(r, rest, true));
            case 'x': return goes(() -> mark(r, rest, false));
            case 'c': return goes(() -> cut(r, rest));
            case 't': return goes(() -> turn(r));
            case 's': return goes(() -> set(0, all));
            default: return goes(() -> set(1, all));
        }
    }

    private static boolean goes(Runnable command) {
        try {
            command.run();
            return true;
        } catch (IndexOutOfBoundsException | IllegalArgumentException | IllegalStateException e) {
            return false;
        }
    }

    private static void index(boolean good) {
        if (!good) {
            throw new IndexOutOfBoundsException();
        }
    }

    private static void argument(boolean good) {
        if (!good) {
            throw new IllegalArgumentException();
        }
    }

    private static void state(boolean good) {
        if (!good) {
            throw new IllegalStateException();
        }
    }

    // ---- what there is

    private Row row(int r) {
        index(r >= 0 && r < state.rulers.size());
        return state.rulers.get(r);
    }

    private int[] lengths() {
        TreeSet<Integer> lengths = new TreeSet<>();
        for (Row row : state.rulers) {
            lengths.addAll(row.lengths().keySet());
        }
        return lengths.stream().mapToInt(i -> i).toArray();
    }

    private boolean[] laid() {
        Lengths all = new Lengths(lengths());
        boolean[] laid = new boolean[state.settings[1] + 1];
        for (int t = 1; t < laid.length; t++) {
            laid[t] = all.fewest(t) >= 0 && all.fewest(t) <= state.settings[0];
        }
        return laid;
    }

    private int laidLengths() {
        int count = 0;
        for (boolean is : laid()) {
            count += is ? 1 : 0;
        }
        return count;
    }

    private List<int[]> gaps() {
        List<int[]> gaps = new ArrayList<>();
        boolean[] laid = laid();
        int t = 1;
        while (t < laid.length) {
            int start = t;
            while (t < laid.length && !laid[t]) {
                t++;
            }
            if (t > start) {
                gaps.add(new int[] {start, t - start});
            }
            t++;
        }
        return gaps;
    }

    private static int divisor(int[] numbers) {
        int result = 0;
        for (int number : numbers) {
            int a = result;
            int b = number;
            while (b != 0) {
                int rest = a % b;
                a = b;
                b = rest;
            }
            result = a;
        }
        return result;
    }

    int about(int what) {
        argument(what >= 0 && what <= 8);
        int[] answers = {state.rulers.size(), 0, 0, lengths().length, divisor(lengths()), laidLengths(), gaps().size(),
            state.settings[0], state.settings[1]};
        for (Row row : state.rulers) {
            answers[1] += row.size();
            answers[2] += row.spans().size();
        }
        return answers[what];
    }

    int rulerOf(int r, int what) {
        Row row = row(r);
        argument(what >= 0 && what <= 5);
        Map<Integer, Integer> lengths = row.lengths();
        int most = 0;
        for (int length : lengths.keySet()) {
            if (most == 0 || lengths.get(length) > lengths.get(most)) {
                most = length;
            }
        }
        int missing = 1;
        while (lengths.containsKey(missing)) {
            missing++;
        }
        return new int[] {row.length(), row.size(), row.spans().size(), lengths.size(), most, missing}[what];
    }

    int isMarked(int r, int p) {
        Row row = row(r);
        index(p >= 0 && p <= row.length());
        return row.contains(p) ? 1 : 0;
    }

    int span(int r, int k, int what) {
        Row row = row(r);
        index(k >= 0 && k < row.spans().size());
        argument(what >= 0 && what <= 3);
        int[] span = row.spans().get(k);
        int length = span[1] - span[0];
        int alike = 0;
        for (Row other : state.rulers) {
            alike += other.lengths().getOrDefault(length, 0);
        }
        return new int[] {span[0], span[1], length, alike}[what];
    }

    int gap(int k, int what) {
        index(k >= 0 && k < gaps().size());
        argument(what == 0 || what == 1);
        return gaps().get(k)[what];
    }

    // ---- actions

    private void remember() {
        remembered.addLast(state.copied());
        if (remembered.size() > 14) {
            remembered.removeFirst();
        }
    }

    int ruler(int n) {
        argument(n >= 2 && n <= 40);
        state(state.rulers.size() < 4);
        remember();
        Row row = new Row();
        row.add(0);
        row.add(n);
        state.rulers.add(row);
        return state.rulers.size() - 1;
    }

    int mark(int r, int p, boolean on) {
        Row row = row(r);
        index(p >= 0 && p <= row.length());
        state(on || p != 0 && p != row.length());
        remember();
        if (on) {
            row.add(p);
        } else {
            row.remove(p);
        }
        return row.size();
    }

    int cut(int r, int n) {
        Row row = row(r);
        argument(n >= 2 && n <= row.length());
        remember();
        row.removeIf(p -> p > n);
        row.add(n);
        return row.size();
    }

    int turn(int r) {
        Row row = row(r);
        remember();
        state.rulers.set(r, row.turned());
        return state.rulers.get(r).higher(0);
    }

    int set(int what, int v) {
        argument(what == 0 && v >= 1 && v <= 6 || what == 1 && v >= 10 && v <= 150);
        remember();
        int previous = state.settings[what];
        state.settings[what] = v;
        return previous;
    }

    int undo() {
        try {
            state = remembered.removeLast();
        } catch (NoSuchElementException e) {
            throw new IllegalStateException();
        }
        return remembered.size();
    }

    // ---- what would be

    int fewest(int t, int way) {
        argument(t >= 0 && t <= FARTHEST && way >= 0 && way <= 1);
        return new Lengths(lengths()).fewest(t);
    }

    int laying(int t, int k, int what) {
        argument(t >= 0 && t <= FARTHEST && what >= 0 && what <= 3 && k >= 0);
        Lengths left = new Lengths(t, lengths());
        if (left.fewest(0) <= k) {
            return -1;
        }
        int[] step = {0, 0, 0, 0};
        for (int i = 0; i <= k; i++) {
            step = next(step[3], left);
        }
        return step[what];
    }

    private int[] next(int at, Lengths left) {
        for (int r = 0; r < state.rulers.size(); r++) {
            List<int[]> spans = state.rulers.get(r).spans();
            for (int k = 0; k < spans.size(); k++) {
                int length = spans.get(k)[1] - spans.get(k)[0];
                for (int forward = 1; forward >= 0; forward--) {
                    int to = forward == 1 ? at + length : at - length;
                    if (left.fewest(to) >= 0 && left.fewest(to) == left.fewest(at) - 1) {
                        return new int[] {r, k, forward, to};
                    }
                }
            }
        }
        throw new AssertionError("no next laying");
    }

    int why(int t) {
        argument(t >= 0 && t <= FARTHEST);
        int fewest = new Lengths(lengths()).fewest(t);
        if (fewest >= 0 && fewest <= state.settings[0]) {
            return 0;
        }
        if (state.rulers.isEmpty()) {
            return 1;
        }
        return t % divisor(lengths()) != 0 ? 2 : fewest >= 0 ? 3 : 4;
    }

    int bestMark(int r, int what) {
        Row row = row(r);
        argument(what == 0 || what == 1);
        int[] best = {-1, -1};
        for (int p = 0; p <= row.length(); p++) {
            if (row.add(p)) {
                int count = laidLengths();
                row.remove(p);
                if (best[0] < 0 || count > best[1]) {
                    best = new int[] {p, count};
                }
            }
        }
        return best[what];
    }

    int needless(int r) {
        Row row = row(r);
        int now = laidLengths();
        int count = 0;
        for (int p : row.inner()) {
            row.remove(p);
            count += laidLengths() == now ? 1 : 0;
            row.add(p);
        }
        return count;
    }

    int twin(int r, int other, boolean turned) {
        Row own = row(r).inner();
        Row theirs = turned ? row(other).turned().inner() : row(other).inner();
        for (int k = -40; k <= 40; k++) {
            Row moved = new Row();
            for (int p : theirs) {
                moved.add(p + k);
            }
            if (!own.isEmpty() && moved.equals(own)) {
                return k + 100;
            }
        }
        return -1;
    }

    int layings() {
        Lengths all = new Lengths(lengths());
        int most = 0;
        for (int t = 1; t <= state.settings[1]; t++) {
            if (all.fewest(t) < 0) {
                return -1;
            }
            most = Math.max(most, all.fewest(t));
        }
        return most;
    }

    // ---- scripts, simulations

    private Model copied() {
        Model copy = new Model();
        copy.state = state.copied();
        return copy;
    }

    int runScript(int n, long script) {
        argument(n >= 1 && n <= 3);
        argument(script >= 0 && String.valueOf(script).length() <= 6 * n);
        Model copy = copied();
        String digits = "0".repeat(6 * n - String.valueOf(script).length()) + script;
        for (int i = 0; i < n; i++) {
            String group = digits.substring(6 * i, 6 * i + 6);
            if (!copy.runs(group)) {
                return i;
            }
        }
        return -1;
    }

    private boolean runs(String group) {
        if (group.matches("1000..")) {
            return goes(() -> ruler(number(group, 4, 6)));
        }
        if (group.matches("2...0[01]")) {
            return goes(() -> mark(number(group, 1, 2), number(group, 2, 4), group.endsWith("1")));
        }
        if (group.matches("3.00..")) {
            return goes(() -> cut(number(group, 1, 2), number(group, 4, 6)));
        }
        if (group.matches("4.0000")) {
            return goes(() -> turn(number(group, 1, 2)));
        }
        if (group.matches("5.0...")) {
            return goes(() -> set(number(group, 1, 2), number(group, 3, 6)));
        }
        if (group.matches("60....") && number(group, 2, 5) <= 200) {
            int fewest = fewest(number(group, 2, 5), 0);
            return fewest != -1 && fewest <= number(group, 5, 6);
        }
        if (group.matches("700...")) {
            return about(5) >= number(group, 3, 6);
        }
        if (group.matches("8...0[01]")) {
            int r = number(group, 1, 2);
            int p = number(group, 2, 4);
            return goes(() -> isMarked(r, p)) && isMarked(r, p) == number(group, 5, 6);
        }
        return group.matches("9000..") && about(6) <= number(group, 4, 6);
    }

    private static int number(String group, int from, int to) {
        return Integer.parseInt(group.substring(from, to));
    }

    int simulate(long seed, int m) {
        argument(m >= 1 && m <= 60);
        Model copy = copied();
        long x = seed;
        for (int i = 0; i < m; i++) {
            x = x * 6364136223846793005L + 1442695040888963407L;
            int r = (int) (x >>> 33);
            goes(() -> copy.takeTurn(r % 8, r / 8));
        }
        return 10000 * copy.about(1) + 10 * copy.about(5) + copy.about(0);
    }

    private void takeTurn(int kind, int q) {
        if (kind == 0) {
            ruler(2 + q % 39);
        } else if (kind <= 4) {
            mark(q % 4, q / 4 % 41, q / 256 % 4 != 0);
        } else if (kind == 5) {
            cut(q % 4, 2 + q / 4 % 39);
        } else if (kind == 6) {
            turn(q % 4);
        } else if (q / 8 % 2 == 0) {
            set(0, 1 + q % 6);
        } else {
            set(1, 10 + q / 16 % 141);
        }
    }

    // ---- save slots

    int save(int slot) {
        index(slot == 0 || slot == 1);
        slots[slot] = state.copied();
        return state.rulers.size();
    }

    int restore(int slot) {
        index(slot == 0 || slot == 1);
        state(slots[slot] != null);
        state = slots[slot].copied();
        remembered.clear();
        return state.rulers.size();
    }
}
