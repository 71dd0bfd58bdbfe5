import java.util.Arrays;

/** Odd rulers that measure by sums and differences of their marks. */
public final class OddRulers {
    public static final int NONE = -1;

    private static final int MOST_RULERS = 4;
    private static final int LEAST_SIZE = 2;
    private static final int GREATEST_SIZE = 40;
    private static final int FARTHEST = 200;
    private static final int LEAST_ALLOWED = 1;
    private static final int MOST_ALLOWED = 6;
    private static final int LEAST_RANGE = 10;
    private static final int GREATEST_RANGE = 150;
    private static final int MOST_REMEMBERED = 14;
    private static final int MOST_SIGNS = 120;
    private static final int GREATEST_SIGN = 255;
    private static final int MOST_COMMANDS = 3;
    private static final int GROUP = 1000000;
    private static final int MOST_TURNS = 60;

    // The actions bear the numbers that the scripts give them.
    private static final int ADD = 1;
    private static final int PUT = 2;
    private static final int SHORTEN = 3;
    private static final int REVERSE = 4;
    private static final int ADJUST = 5;

    private static final int ALLOWED = 0;
    private static final int NOT_THERE = 1;
    private static final int OUT_OF_RANGE = 2;
    private static final int NOT_NOW = 3;

    private final State present = new State();
    private final State copy = new State();
    private final State firstSlot = new State();
    private final State secondSlot = new State();
    private boolean firstFilled;
    private boolean secondFilled;
    private final Memory memory = new Memory();
    private final CaseText text = new CaseText();
    private final Reach reach = new Reach();
    private final Laid laid = new Laid();

    public OddRulers() {
    }

    // ---- text

    public int append(int c) throws IllegalArgumentException, IllegalStateException {
        if (c < 0 || c > GREATEST_SIGN) {
            throw new IllegalArgumentException("no such character");
        }
        if (!text.add((char) c)) {
            throw new IllegalStateException("the text is full");
        }
        return text.size();
    }

    public int clearText() {
        return text.empty();
    }

    public int errorPosition() {
        return text.firstFault();
    }

    public int load() throws IllegalStateException {
        if (text.firstFault() != NONE) {
            throw new IllegalStateException("the text is not a case");
        }
        present.begin();
        memory.forget();
        firstFilled = false;
        secondFilled = false;
        return text.doCommands(present);
    }

    // ---- what there is

    public int about(int what) throws IllegalArgumentException {
        switch (what) {
            case 0: return present.rulers();
            case 1: return present.allMarks();
            case 2: return present.allSpans();
            case 3: return Long.bitCount(present.spread());
            case 4: return commonDivisor(present.spread());
            case 5: return laidLengths(present);
            case 6: return gaps(present);
            case 7: return present.allowed();
            case 8: return present.range();
            default: throw new IllegalArgumentException("no such number");
        }
    }

    public int rulerOf(int r, int what) throws IndexOutOfBoundsException, IllegalArgumentException {
        checkRuler(r);
        switch (what) {
            case 0: return present.size(r);
            case 1: return present.marksOf(r);
            case 2: return present.spansOf(r);
            case 3: return Long.bitCount(spreadOf(present.row(r)));
            case 4: return commonest(present.row(r));
            case 5: return leastMissing(spreadOf(present.row(r)));
            default: throw new IllegalArgumentException("no such number");
        }
    }

    public int isMarked(int r, int p) throws IndexOutOfBoundsException {
        if (!present.hasPlace(r, p)) {
            throw new IndexOutOfBoundsException("no such place");
        }
        return present.hasMark(r, p) ? 1 : 0;
    }

    public int span(int r, int k, int what) throws IndexOutOfBoundsException, IllegalArgumentException {
        if (!present.hasRuler(r) || k < 0 || k >= present.spansOf(r)) {
            throw new IndexOutOfBoundsException("no such span");
        }
        int low = present.lowerMark(r, k);
        int high = present.greaterMark(r, k);
        switch (what) {
            case 0: return low;
            case 1: return high;
            case 2: return high - low;
            case 3: return present.spansOfLength(high - low);
            default: throw new IllegalArgumentException("no such number");
        }
    }

    public int gap(int k, int what) throws IndexOutOfBoundsException, IllegalArgumentException {
        if (k < 0 || k >= gaps(present)) {
            throw new IndexOutOfBoundsException("no such gap");
        }
        if (what != 0 && what != 1) {
            throw new IllegalArgumentException("no such number");
        }
        int least = reach.gapStart(k, present.range());
        return what == 0 ? least : reach.gapLength(least, present.range());
    }

    // ---- actions

    public int ruler(int n) throws IllegalArgumentException, IllegalStateException {
        return act(ADD, n, 0, false);
    }

    public int mark(int r, int p, boolean on) throws IndexOutOfBoundsException, IllegalStateException {
        return act(PUT, r, p, on);
    }

    public int cut(int r, int n) throws IndexOutOfBoundsException, IllegalArgumentException {
        return act(SHORTEN, r, n, false);
    }

    public int turn(int r) throws IndexOutOfBoundsException {
        return act(REVERSE, r, 0, false);
    }

    public int set(int what, int v) throws IllegalArgumentException {
        return act(ADJUST, what, v, false);
    }

    public int undo() throws IllegalStateException {
        if (!memory.giveBack(present)) {
            throw new IllegalStateException("no state is remembered");
        }
        return memory.size();
    }

    private int act(int action, int a, int b, boolean on) {
        refuse(present.refusal(action, a, b, on));
        memory.keep(present);
        return present.perform(action, a, b, on);
    }

    private static void refuse(int refusal) {
        if (refusal == NOT_THERE) {
            throw new IndexOutOfBoundsException("no such ruler or place");
        }
        if (refusal == OUT_OF_RANGE) {
            throw new IllegalArgumentException("out of range");
        }
        if (refusal == NOT_NOW) {
            throw new IllegalStateException("not in this state");
        }
    }

    private void checkRuler(int r) {
        if (!present.hasRuler(r)) {
            throw new IndexOutOfBoundsException("no such ruler");
        }
    }

    // ---- what would be

    public int fewest(int t, int way) throws IllegalArgumentException {
        checkLength(t);
        if (way != 0 && way != 1) {
            throw new IllegalArgumentException("no such way");
        }
        long spread = present.spread();
        return way == 0 ? reach.fewestByLengths(t, spread) : reach.fewestBySets(t, spread);
    }

    public int laying(int t, int k, int what) throws IllegalArgumentException {
        checkLength(t);
        if (k < 0 || what < 0 || what > 3) {
            throw new IllegalArgumentException("no such number");
        }
        // Counted back from the end, so that each step can see how many are left.
        reach.walk(t, present.spread());
        int all = reach.stepsTo(0);
        if (k >= all) {
            return NONE;
        }
        laid.begin();
        for (int i = 0; i <= k && i <= FARTHEST; i++) {
            layNext(all - 1 - i);
        }
        return laid.number(what);
    }

    public int why(int t) throws IllegalArgumentException {
        checkLength(t);
        if (t == 0) {
            return 0;
        }
        if (present.rulers() == 0) {
            return 1;
        }
        int divisor = commonDivisor(present.spread());
        if (divisor > 0 && t % divisor != 0) {
            return 2;
        }
        int fewest = reach.fewestByLengths(t, present.spread());
        if (fewest == NONE) {
            return 4;
        }
        return fewest > present.allowed() ? 3 : 0;
    }

    public int bestMark(int r, int what) throws IndexOutOfBoundsException, IllegalArgumentException {
        checkRuler(r);
        if (what != 0 && what != 1) {
            throw new IllegalArgumentException("no such number");
        }
        long others = present.spreadWithout(r);
        int best = NONE;
        int most = NONE;
        for (int p = 0; p <= GREATEST_SIZE; p++) {
            if (present.hasPlace(r, p) && !present.hasMark(r, p)) {
                long spread = others | spreadOf(present.row(r) | 1L << p);
                int count = laidBy(spread);
                if (count > most) {
                    most = count;
                    best = p;
                }
            }
        }
        return what == 0 ? best : most;
    }

    public int needless(int r) throws IndexOutOfBoundsException {
        checkRuler(r);
        long others = present.spreadWithout(r);
        int now = laidLengths(present);
        int count = 0;
        for (int p = 1; p < GREATEST_SIZE; p++) {
            if (present.hasMark(r, p) && !present.isEnd(r, p)) {
                long spread = others | spreadOf(present.row(r) & ~(1L << p));
                if (laidBy(spread) == now) {
                    count++;
                }
            }
        }
        return count;
    }

    public int twin(int r, int other, boolean turned) throws IndexOutOfBoundsException {
        checkRuler(r);
        checkRuler(other);
        long own = present.innerMarks(r);
        long theirs = turned ? reversed(present.innerMarks(other), present.size(other)) : present.innerMarks(other);
        if (own == 0L || Long.bitCount(own) != Long.bitCount(theirs)) {
            return NONE;
        }
        int shift = lowest(own) - lowest(theirs);
        long moved = shift >= 0 ? theirs << shift : theirs >>> -shift;
        return moved == own ? shift + 100 : NONE;
    }

    public int layings() {
        reach.walk(0, present.spread());
        int most = 0;
        for (int t = 1; t <= present.range() && t <= GREATEST_RANGE; t++) {
            int steps = reach.stepsTo(t);
            if (steps == NONE) {
                return NONE;
            }
            most = Math.max(most, steps);
        }
        return most;
    }

    private static void checkLength(int t) {
        if (t < 0 || t > FARTHEST) {
            throw new IllegalArgumentException("no such length");
        }
    }

    private int laidLengths(State state) {
        reach.layAtMost(state.allowed(), state.spread());
        return reach.countLaid(state.range());
    }

    private int laidBy(long spread) {
        reach.layAtMost(present.allowed(), spread);
        return reach.countLaid(present.range());
    }

    private int gaps(State state) {
        reach.layAtMost(state.allowed(), state.spread());
        return reach.countGaps(state.range());
    }

    /** Lays the first span, by ruler, span and direction, behind which as many layings as told are left. */
    private void layNext(int left) {
        int from = laid.end();
        for (int r = 0; r < present.rulers() && r < MOST_RULERS; r++) {
            int k = 0;
            for (int low = 0; low <= GREATEST_SIZE; low++) {
                for (int high = low + 1; high <= GREATEST_SIZE && present.hasMark(r, low); high++) {
                    if (!present.hasMark(r, high)) {
                        continue;
                    }
                    if (reach.stepsTo(from + high - low) == left) {
                        laid.note(r, k, true, from + high - low);
                        return;
                    }
                    if (reach.stepsTo(from + low - high) == left) {
                        laid.note(r, k, false, from + low - high);
                        return;
                    }
                    k++;
                }
            }
        }
    }

    // ---- scripts, simulations

    public int runScript(int n, long script) throws IllegalArgumentException {
        if (n < 1 || n > MOST_COMMANDS) {
            throw new IllegalArgumentException("no such number of commands");
        }
        long unit = 1L;
        for (int i = 1; i < n && i < MOST_COMMANDS; i++) {
            unit *= GROUP;
        }
        if (script < 0L || script >= unit * GROUP) {
            throw new IllegalArgumentException("no such script");
        }
        copy.become(present);
        for (int i = 0; i < n && i < MOST_COMMANDS; i++) {
            if (!runGroup((int) (script / Math.max(unit, 1L) % GROUP), copy)) {
                return i;
            }
            unit /= GROUP;
        }
        return NONE;
    }

    public int simulate(long seed, int m) throws IllegalArgumentException {
        if (m < 1 || m > MOST_TURNS) {
            throw new IllegalArgumentException("no such number of turns");
        }
        copy.become(present);
        long x = seed;
        for (int i = 0; i < m && i < MOST_TURNS; i++) {
            x = x * 6364136223846793005L + 1442695040888963407L;
            takeTurn((int) (x >>> 33), copy);
        }
        return 10000 * copy.allMarks() + 10 * laidLengths(copy) + copy.rulers();
    }

    private boolean runGroup(int group, State state) {
        int first = group / 100000;
        int second = group / 10000 % 10;
        int last = group % 10;
        switch (first) {
            case ADD: return group / 100 % 1000 == 0 && state.attempt(ADD, group % 100, 0, false);
            case PUT: return group / 10 % 10 == 0 && last <= 1
                    && state.attempt(PUT, second, group / 100 % 100, last == 1);
            case SHORTEN: return group / 100 % 100 == 0 && state.attempt(SHORTEN, second, group % 100, false);
            case REVERSE: return group % 10000 == 0 && state.attempt(REVERSE, second, 0, false);
            case ADJUST: return group / 1000 % 10 == 0 && state.attempt(ADJUST, second, group % 1000, false);
            case 6: return second == 0 && laysWithin(group / 10 % 1000, last, state);
            case 7: return group / 1000 % 100 == 0 && laidLengths(state) >= group % 1000;
            case 8: return group / 10 % 10 == 0 && last <= 1 && marksAs(second, group / 100 % 100, last == 1, state);
            case 9: return group / 100 % 1000 == 0 && gaps(state) <= group % 100;
            default: return false;
        }
    }

    private boolean laysWithin(int t, int most, State state) {
        if (t > FARTHEST) {
            return false;
        }
        int fewest = reach.fewestByLengths(t, state.spread());
        return fewest != NONE && fewest <= most;
    }

    private static boolean marksAs(int r, int p, boolean on, State state) {
        return state.hasPlace(r, p) && state.hasMark(r, p) == on;
    }

    private static void takeTurn(int r, State state) {
        int q = r / 8;
        switch (r % 8) {
            case 0:
                state.attempt(ADD, 2 + q % 39, 0, false);
                break;
            case 5:
                state.attempt(SHORTEN, q % 4, 2 + q / 4 % 39, false);
                break;
            case 6:
                state.attempt(REVERSE, q % 4, 0, false);
                break;
            case 7:
                if (q / 8 % 2 == 0) {
                    state.attempt(ADJUST, 0, 1 + q % 6, false);
                } else {
                    state.attempt(ADJUST, 1, 10 + q / 16 % 141, false);
                }
                break;
            default:
                state.attempt(PUT, q % 4, q / 4 % 41, q / 256 % 4 != 0);
                break;
        }
    }

    // ---- save slots

    public int save(int slot) throws IndexOutOfBoundsException {
        checkSlot(slot);
        if (slot == 0) {
            firstSlot.become(present);
            firstFilled = true;
        } else {
            secondSlot.become(present);
            secondFilled = true;
        }
        return present.rulers();
    }

    public int restore(int slot) throws IndexOutOfBoundsException, IllegalStateException {
        checkSlot(slot);
        if (!(slot == 0 ? firstFilled : secondFilled)) {
            throw new IllegalStateException("nothing has been saved");
        }
        present.become(slot == 0 ? firstSlot : secondSlot);
        memory.forget();
        return present.rulers();
    }

    private static void checkSlot(int slot) {
        if (slot != 0 && slot != 1) {
            throw new IndexOutOfBoundsException("no such save slot");
        }
    }

    // ---- rows of bits: the bit p stands for a mark at the place p, or for the length p

    private static boolean hasBit(long row, int p) {
        return p >= 0 && p < 64 && (row >>> p & 1L) != 0L;
    }

    private static int lowest(long row) {
        for (int p = 0; p < 64; p++) {
            if (hasBit(row, p)) {
                return p;
            }
        }
        return NONE;
    }

    private static long reversed(long row, int size) {
        long result = 0L;
        for (int p = 0; p <= size && p <= GREATEST_SIZE; p++) {
            if (hasBit(row, p)) {
                result |= 1L << (size - p);
            }
        }
        return result;
    }

    private static int pairsApart(long row, int length) {
        return Long.bitCount(row & row >>> length);
    }

    /** The lengths of the spans between the marks of a row. */
    private static long spreadOf(long row) {
        long spread = 0L;
        for (int d = 1; d <= GREATEST_SIZE; d++) {
            if ((row & row >>> d) != 0L) {
                spread |= 1L << d;
            }
        }
        return spread;
    }

    private static int commonest(long row) {
        int best = 0;
        int most = 0;
        for (int d = 1; d <= GREATEST_SIZE; d++) {
            int count = pairsApart(row, d);
            if (count > most) {
                most = count;
                best = d;
            }
        }
        return best;
    }

    private static int leastMissing(long spread) {
        int d = 1;
        while (d <= GREATEST_SIZE && hasBit(spread, d)) {
            d++;
        }
        return d;
    }

    private static int commonDivisor(long spread) {
        if (spread == 0L) {
            return 0;
        }
        for (int divisor = GREATEST_SIZE; divisor > 1; divisor--) {
            if (dividesAll(divisor, spread)) {
                return divisor;
            }
        }
        return 1;
    }

    private static boolean dividesAll(int divisor, long spread) {
        for (int d = 1; d <= GREATEST_SIZE; d++) {
            if (hasBit(spread, d) && divisor > 0 && d % divisor != 0) {
                return false;
            }
        }
        return true;
    }

    /** The rulers and the settings: all that undo and the save slots bring back. */
    private static final class State {
        private final int[] sizes = new int[MOST_RULERS];
        private final long[] rows = new long[MOST_RULERS];
        private int rulers;
        private int allowed;
        private int range;

        State() {
            begin();
        }

        void begin() {
            rulers = 0;
            allowed = 2;
            range = 40;
        }

        void become(State other) {
            if (other == null) {
                return;
            }
            for (int r = 0; r < MOST_RULERS; r++) {
                put(r, other.size(r), other.row(r));
            }
            rulers = other.rulers;
            allowed = other.allowed;
            range = other.range;
        }

        private void put(int r, int size, long row) {
            if (r >= 0 && r < sizes.length && r < rows.length) {
                sizes[r] = size;
                rows[r] = row;
            }
        }

        int rulers() {
            return rulers;
        }

        int allowed() {
            return allowed;
        }

        int range() {
            return range;
        }

        boolean hasRuler(int r) {
            return r >= 0 && r < rulers;
        }

        int size(int r) {
            return r >= 0 && r < rulers && r < sizes.length ? sizes[r] : 0;
        }

        long row(int r) {
            return r >= 0 && r < rulers && r < rows.length ? rows[r] : 0L;
        }

        boolean hasPlace(int r, int p) {
            return hasRuler(r) && p >= 0 && p <= size(r);
        }

        boolean hasMark(int r, int p) {
            return hasBit(row(r), p);
        }

        boolean isEnd(int r, int p) {
            return p == 0 || p == size(r);
        }

        int marksOf(int r) {
            return Long.bitCount(row(r));
        }

        long innerMarks(int r) {
            return row(r) & ~1L & ~(1L << size(r));
        }

        int spansOf(int r) {
            return marksOf(r) * (marksOf(r) - 1) / 2;
        }

        int allMarks() {
            int count = 0;
            for (int r = 0; r < MOST_RULERS; r++) {
                count += marksOf(r);
            }
            return count;
        }

        int allSpans() {
            int count = 0;
            for (int r = 0; r < MOST_RULERS; r++) {
                count += spansOf(r);
            }
            return count;
        }

        int spansOfLength(int length) {
            int count = 0;
            for (int r = 0; r < MOST_RULERS; r++) {
                count += pairsApart(row(r), length);
            }
            return count;
        }

        long spread() {
            return spreadWithout(NONE);
        }

        long spreadWithout(int left) {
            long spread = 0L;
            for (int r = 0; r < MOST_RULERS; r++) {
                if (r != left) {
                    spread |= spreadOf(row(r));
                }
            }
            return spread;
        }

        int lowerMark(int r, int k) {
            int before = 0;
            int after = marksOf(r);
            for (int p = 0; p <= GREATEST_SIZE; p++) {
                if (hasMark(r, p)) {
                    after--;
                    before += after;
                    if (k < before) {
                        return p;
                    }
                }
            }
            return NONE;
        }

        int greaterMark(int r, int k) {
            int left = k;
            for (int low = 0; low <= GREATEST_SIZE; low++) {
                for (int high = low + 1; high <= GREATEST_SIZE && hasMark(r, low); high++) {
                    if (hasMark(r, high)) {
                        if (left == 0) {
                            return high;
                        }
                        left--;
                    }
                }
            }
            return NONE;
        }

        /** Which exception the action asks for; of several the one that its description names first. */
        int refusal(int action, int a, int b, boolean on) {
            switch (action) {
                case ADD:
                    if (a < LEAST_SIZE || a > GREATEST_SIZE) {
                        return OUT_OF_RANGE;
                    }
                    return rulers >= MOST_RULERS ? NOT_NOW : ALLOWED;
                case PUT:
                    if (!hasPlace(a, b)) {
                        return NOT_THERE;
                    }
                    return !on && isEnd(a, b) ? NOT_NOW : ALLOWED;
                case SHORTEN:
                    if (!hasRuler(a)) {
                        return NOT_THERE;
                    }
                    return b < LEAST_SIZE || b > size(a) ? OUT_OF_RANGE : ALLOWED;
                case REVERSE:
                    return hasRuler(a) ? ALLOWED : NOT_THERE;
                default:
                    return isSetting(a, b) ? ALLOWED : OUT_OF_RANGE;
            }
        }

        private static boolean isSetting(int which, int value) {
            if (which == 0) {
                return value >= LEAST_ALLOWED && value <= MOST_ALLOWED;
            }
            return which == 1 && value >= LEAST_RANGE && value <= GREATEST_RANGE;
        }

        boolean attempt(int action, int a, int b, boolean on) {
            if (refusal(action, a, b, on) != ALLOWED) {
                return false;
            }
            perform(action, a, b, on);
            return true;
        }

        int perform(int action, int a, int b, boolean on) {
            switch (action) {
                case ADD: return addRuler(a);
                case PUT: return putMark(a, b, on);
                case SHORTEN: return shorten(a, b);
                case REVERSE: return reverse(a);
                default: return adjust(a, b);
            }
        }

        private int addRuler(int size) {
            put(rulers, size, 1L | 1L << size);
            rulers++;
            return rulers - 1;
        }

        private int putMark(int r, int p, boolean on) {
            long bit = 1L << p;
            put(r, size(r), on ? row(r) | bit : row(r) & ~bit);
            return marksOf(r);
        }

        private int shorten(int r, int size) {
            long end = 1L << size;
            put(r, size, row(r) & (end - 1L) | end);
            return marksOf(r);
        }

        private int reverse(int r) {
            put(r, size(r), reversed(row(r), size(r)));
            return innerMarks(r) == 0L ? size(r) : lowest(innerMarks(r));
        }

        private int adjust(int which, int value) {
            int previous = which == 0 ? allowed : range;
            if (which == 0) {
                allowed = value;
            } else {
                range = value;
            }
            return previous;
        }
    }

    /** The states before the last actions, in a ring, so that the oldest is the one that is overwritten. */
    private static final class Memory {
        private final State[] states = new State[MOST_REMEMBERED];
        private int next;
        private int size;

        Memory() {
            for (int i = 0; i < states.length; i++) {
                states[i] = new State();
            }
        }

        void keep(State state) {
            if (next >= 0 && next < states.length && states[next] != null) {
                states[next].become(state);
            }
            next = next + 1 < MOST_REMEMBERED ? next + 1 : 0;
            size = Math.min(size + 1, MOST_REMEMBERED);
        }

        boolean giveBack(State state) {
            if (size == 0 || state == null) {
                return false;
            }
            size--;
            next = next > 0 ? next - 1 : MOST_REMEMBERED - 1;
            if (next >= 0 && next < states.length) {
                state.become(states[next]);
            }
            return true;
        }

        void forget() {
            size = 0;
        }

        int size() {
            return size;
        }
    }

    /** The laying that was chosen last. */
    private static final class Laid {
        private int ruler;
        private int number;
        private boolean forward;
        private int end;

        void begin() {
            end = 0;
        }

        void note(int r, int k, boolean ahead, int to) {
            ruler = r;
            number = k;
            forward = ahead;
            end = to;
        }

        int end() {
            return end;
        }

        int number(int what) {
            switch (what) {
                case 0: return ruler;
                case 1: return number;
                case 2: return forward ? 1 : 0;
                default: return end;
            }
        }
    }

    /** Which lengths layings can end at: rows that are made once and filled anew for each question. */
    private static final class Reach {
        private static final int WORDS = 4;
        private static final long LAST_WORD = 0x1FFL;

        private final int[] steps = new int[FARTHEST + 1];
        private final int[] line = new int[FARTHEST + 1];
        private int lined;
        private final long[] reached = new long[WORDS];
        private final long[] grown = new long[WORDS];

        /** Length by length: how many layings lead from one length to each other one. */
        void walk(int start, long spread) {
            Arrays.fill(steps, NONE);
            lined = 0;
            visit(start, 0);
            for (int i = 0; i < lined && i < line.length; i++) {
                int from = line[i];
                int next = stepsTo(from) + 1;
                for (int d = 1; d <= GREATEST_SIZE; d++) {
                    if (hasBit(spread, d)) {
                        visit(from + d, next);
                        visit(from - d, next);
                    }
                }
            }
        }

        private void visit(int at, int number) {
            if (at < 0 || at >= steps.length || lined < 0 || lined >= line.length || steps[at] != NONE) {
                return;
            }
            steps[at] = number;
            line[lined] = at;
            lined++;
        }

        int stepsTo(int at) {
            return at >= 0 && at < steps.length ? steps[at] : NONE;
        }

        int fewestByLengths(int t, long spread) {
            walk(0, spread);
            return stepsTo(t);
        }

        int fewestBySets(int t, long spread) {
            layNothing();
            for (int n = 0; n <= FARTHEST; n++) {
                if (isLaid(t)) {
                    return n;
                }
                if (!layOneMore(spread)) {
                    return NONE;
                }
            }
            return NONE;
        }

        void layAtMost(int most, long spread) {
            layNothing();
            for (int n = 0; n < most && n < MOST_ALLOWED; n++) {
                if (!layOneMore(spread)) {
                    return;
                }
            }
        }

        private void layNothing() {
            Arrays.fill(reached, 0L);
            if (reached.length > 0) {
                reached[0] = 1L;
            }
        }

        /** Adds all that one laying more can end at; tells whether that is anything new. */
        private boolean layOneMore(long spread) {
            for (int i = 0; i < WORDS; i++) {
                setGrown(i, word(i));
            }
            for (int d = 1; d <= GREATEST_SIZE; d++) {
                if (hasBit(spread, d)) {
                    addMoved(d);
                }
            }
            return takeGrown();
        }

        private void addMoved(int d) {
            for (int i = 0; i < grown.length; i++) {
                long forward = word(i) << d | word(i - 1) >>> (64 - d);
                long back = word(i) >>> d | word(i + 1) << (64 - d);
                grown[i] |= forward | back;
            }
        }

        private boolean takeGrown() {
            boolean more = false;
            for (int i = 0; i < reached.length && i < grown.length; i++) {
                // The last word has room for lengths beyond the farthest one.
                long now = i == WORDS - 1 ? grown[i] & LAST_WORD : grown[i];
                more = more || now != reached[i];
                reached[i] = now;
            }
            return more;
        }

        private long word(int i) {
            return i >= 0 && i < reached.length ? reached[i] : 0L;
        }

        private void setGrown(int i, long word) {
            if (i >= 0 && i < grown.length) {
                grown[i] = word;
            }
        }

        boolean isLaid(int t) {
            return t >= 0 && t <= FARTHEST && hasBit(word(t / 64), t % 64);
        }

        int countLaid(int range) {
            int count = 0;
            for (int t = 1; t <= range && t <= GREATEST_RANGE; t++) {
                if (isLaid(t)) {
                    count++;
                }
            }
            return count;
        }

        private boolean startsGap(int t) {
            // There is a length before the first one of the range: 0, which always can be laid.
            return !isLaid(t) && isLaid(t - 1);
        }

        int countGaps(int range) {
            int count = 0;
            for (int t = 1; t <= range && t <= GREATEST_RANGE; t++) {
                if (startsGap(t)) {
                    count++;
                }
            }
            return count;
        }

        int gapStart(int k, int range) {
            int left = k;
            for (int t = 1; t <= range && t <= GREATEST_RANGE; t++) {
                if (startsGap(t)) {
                    if (left == 0) {
                        return t;
                    }
                    left--;
                }
            }
            return NONE;
        }

        int gapLength(int start, int range) {
            int length = 0;
            for (int t = start; t <= range && t <= GREATEST_RANGE; t++) {
                if (isLaid(t)) {
                    return length;
                }
                length++;
            }
            return length;
        }
    }

    /** The text buffer, and what reads it as a case. */
    private static final class CaseText {
        private final char[] signs = new char[MOST_SIGNS];
        private int size;
        private int at;
        private int fault;
        // The command that was read last, as State.attempt takes it.
        private int action;
        private int first;
        private int second;
        private boolean on;

        boolean add(char sign) {
            if (size < 0 || size >= signs.length) {
                return false;
            }
            signs[size] = sign;
            size++;
            return true;
        }

        int size() {
            return size;
        }

        int empty() {
            int previous = size;
            size = 0;
            return previous;
        }

        int firstFault() {
            open();
            for (int i = 0; i < MOST_SIGNS && at < size && fault == NONE; i++) {
                readCommand();
            }
            return fault;
        }

        /** Does the commands of a text without fault; returns how many would throw an exception. */
        int doCommands(State state) {
            int out = 0;
            open();
            for (int i = 0; i < MOST_SIGNS && at < size && fault == NONE; i++) {
                readCommand();
                if (!state.attempt(action, first, second, on)) {
                    out++;
                }
            }
            return out;
        }

        private void open() {
            at = 1;
            fault = sign(0) == 'K' ? NONE : 0;
        }

        private char sign(int index) {
            return index >= 0 && index < size && index < signs.length ? signs[index] : 0;
        }

        private void readCommand() {
            char letter = sign(at);
            at++;
            switch (letter) {
                case 'r':
                    hold(ADD, number(2, LEAST_SIZE, GREATEST_SIZE), 0);
                    break;
                case 'm':
                case 'x':
                    hold(PUT, rulerNumber(), number(2, 0, GREATEST_SIZE));
                    break;
                case 'c':
                    hold(SHORTEN, rulerNumber(), number(2, LEAST_SIZE, GREATEST_SIZE));
                    break;
                case 't':
                    hold(REVERSE, rulerNumber(), 0);
                    break;
                case 's':
                    hold(ADJUST, 0, number(1, LEAST_ALLOWED, MOST_ALLOWED));
                    break;
                case 'g':
                    hold(ADJUST, 1, number(3, LEAST_RANGE, GREATEST_RANGE));
                    break;
                default:
                    fault = at - 1;
                    break;
            }
            on = letter == 'm';
        }

        private void hold(int command, int a, int b) {
            action = command;
            first = a;
            second = b;
        }

        private int rulerNumber() {
            return number(1, 0, MOST_RULERS - 1);
        }

        private int number(int digits, int least, int greatest) {
            int low = 0;
            int unit = digits == 3 ? 100 : digits == 2 ? 10 : 1;
            for (int i = 0; i < digits && i < 3 && fault == NONE; i++) {
                int digit = sign(at) - '0';
                int next = low + digit * unit;
                // A digit stands if a number that begins so lies between the bounds.
                if (digit < 0 || digit > 9 || next > greatest || next + unit - 1 < least) {
                    fault = at;
                } else {
                    low = next;
                    at++;
                }
                unit /= 10;
            }
            return low;
        }
    }
}
