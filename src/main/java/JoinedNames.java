import java.util.Arrays;

/**
 * Lines that let names point to names: what each name may point to (fine and coarse), what lines
 * write and read, what a run really shows, and the lines told as a text, shown and taken back.
 *
 * Every number is looked at in the public methods; the classes inside are only given what passed.
 */
public final class JoinedNames {
    public static final int NONE = -1, BAD = -2, NO = -3, FULL = -4;

    private static final int NOT_SO_MANY = -5;
    private static final int FAULT_BASE = -10;

    private static final int NAMES = 10;
    private static final int MOST_LINES = 14;
    private static final int MOST_ROUNDS = 9;
    private static final int MOST_BYTES = 120;
    private static final int MOST_STATES = 5;
    private static final int DIGEST_ROUNDS = 2;

    private static final int SORTS = 4;
    private static final int ADDRESS = 0, COPY = 1, LOAD = 2, STORE = 3;

    private static final int DETAILS = 5, GROUP_DETAILS = 3, COUNTS = 5, TALLIES = 6;

    private final Lines lines = new Lines();
    private final States states = new States();
    private final Text text = new Text();
    private final Fine fineSets = new Fine();
    private final Coarse coarseSets = new Coarse();
    private final Run run = new Run();
    private int badCount;
    private int noCount;
    private int fullCount;

    public JoinedNames() {
    }

    // ---- lines

    public int line(int sort, int x, int y) {
        if (!below(sort, SORTS) || !isName(x) || !isName(y)) {
            return refuseBad();
        }
        if (lines.size() >= MOST_LINES) {
            return refuseFull();
        }
        states.keep(lines);
        lines.append(sort, x, y);
        return lines.size() - 1;
    }

    public int drops(int i) {
        if (!isLine(i)) {
            return refuseBad();
        }
        states.keep(lines);
        lines.removeAt(i);
        return lines.size();
    }

    public int moves(int i, int p) {
        if (!isLine(i) || !isLine(p)) {
            return refuseBad();
        }
        states.keep(lines);
        lines.moveTo(i, p);
        return i;
    }

    public int of(int i, int what) {
        if (!isLine(i) || !below(what, DETAILS)) {
            return refuseBad();
        }
        fineSets.solve(lines, NONE);
        return lineDetail(i, what);
    }

    public int clash(int i, int j) {
        if (!isLine(i) || !isLine(j) || i == j) {
            return refuseBad();
        }
        fineSets.solve(lines, NONE);
        return asNumber(disturbs(i, j) || disturbs(j, i));
    }

    // ---- what may be

    public int fine(int x) {
        if (!isName(x)) {
            return refuseBad();
        }
        fineSets.solve(lines, NONE);
        return fineSets.setOf(x);
    }

    public int coarse(int x) {
        if (!isName(x)) {
            return refuseBad();
        }
        coarseSets.solve(lines, NONE);
        return coarseSets.setOf(x);
    }

    public int group(int x, int what) {
        if (!isName(x) || !below(what, GROUP_DETAILS)) {
            return refuseBad();
        }
        coarseSets.solve(lines, NONE);
        return groupDetail(x, what);
    }

    public int count(int what) {
        if (!below(what, COUNTS)) {
            return refuseBad();
        }
        fineSets.solve(lines, NONE);
        coarseSets.solve(lines, NONE);
        return counted(what);
    }

    public int alias(int x, int y, int how) {
        if (!isName(x) || !isName(y) || !below(how, 2)) {
            return refuseBad();
        }
        return asNumber((mayPointTo(x, how, NONE) & mayPointTo(y, how, NONE)) != 0);
    }

    public int without(int i, int x, int what) {
        if (!isLine(i) || !isName(x) || !below(what, 2)) {
            return refuseBad();
        }
        int all = Integer.bitCount(mayPointTo(x, what, NONE));
        return all - Integer.bitCount(mayPointTo(x, what, i));
    }

    // ---- runs

    public int points(int n, int x) {
        if (!isRounds(n) || !isName(x)) {
            return refuseBad();
        }
        run.play(lines, n);
        return run.endOf(x);
    }

    public int seen(int n, int x) {
        if (!isRounds(n) || !isName(x)) {
            return refuseBad();
        }
        run.play(lines, n);
        return run.everOf(x);
    }

    public int misses(int n) {
        if (!isRounds(n)) {
            return refuseBad();
        }
        run.play(lines, n);
        return run.missed();
    }

    // ---- texts

    public int type(int c) {
        if (!below(c, 128)) {
            return refuseBad();
        }
        if (text.length() >= MOST_BYTES) {
            return refuseFull();
        }
        text.append(c);
        return text.length();
    }

    public int clear() {
        int had = text.length();
        text.empty();
        return had;
    }

    public int reads() {
        int fault = text.parse();
        if (fault != NONE) {
            return FAULT_BASE - fault;
        }
        states.keep(lines);
        lines.copyFrom(text.parsed());
        return lines.size();
    }

    public int shown(int k) {
        if (k < NONE) {
            return refuseBad();
        }
        return k == NONE ? lines.writtenLength() : lines.writtenByte(k);
    }

    public int back() {
        if (states.size() == 0) {
            return refuseNo();
        }
        states.restore(lines);
        return states.size();
    }

    public int told(int what) {
        if (!below(what, TALLIES)) {
            return refuseBad();
        }
        return tally(what);
    }

    public long digest() {
        fineSets.solve(lines, NONE);
        coarseSets.solve(lines, NONE);
        run.play(lines, DIGEST_ROUNDS);
        long h = 2531;
        for (int what = 0; what < TALLIES; what++) {
            h = mixed(h, tally(what));
        }
        for (int i = 0; i < lines.size(); i++) {
            for (int what = 0; what < DETAILS; what++) {
                h = mixed(h, lineDetail(i, what));
            }
        }
        for (int x = 0; x < NAMES; x++) {
            h = mixedName(h, x);
        }
        for (int what = 0; what < COUNTS; what++) {
            h = mixed(h, counted(what));
        }
        return mixed(h, run.missed());
    }

    // ---- numbers and refusals

    private static boolean below(int number, int bound) {
        return number >= 0 && number < bound;
    }

    private static boolean isName(int x) {
        return below(x, NAMES);
    }

    private static boolean isRounds(int n) {
        return below(n, MOST_ROUNDS + 1);
    }

    private boolean isLine(int i) {
        return below(i, lines.size());
    }

    private static int asNumber(boolean holds) {
        return holds ? 1 : 0;
    }

    private static int bit(int x) {
        return 1 << x;
    }

    private static boolean hasBit(int set, int x) {
        return (set & bit(x)) != 0;
    }

    private int refuseBad() {
        badCount++;
        return BAD;
    }

    private int refuseNo() {
        noCount++;
        return NO;
    }

    private int refuseFull() {
        fullCount++;
        return FULL;
    }

    private int tally(int what) {
        switch (what) {
            case 0:
                return badCount;
            case 1:
                return noCount;
            case 2:
                return fullCount;
            case 3:
                return text.length();
            case 4:
                return lines.size();
            default:
                return states.size();
        }
    }

    // ---- answers from sets that are solved already, so that digest solves them but once

    private int lineDetail(int i, int what) {
        switch (what) {
            case 0:
                return lines.sortAt(i);
            case 1:
                return lines.leftAt(i);
            case 2:
                return lines.rightAt(i);
            case 3:
                return writesOf(i);
            default:
                return readsOf(i);
        }
    }

    private int writesOf(int i) {
        int x = lines.leftAt(i);
        return lines.sortAt(i) == STORE ? fineSets.setOf(x) : bit(x);
    }

    private int readsOf(int i) {
        int x = lines.leftAt(i);
        int y = lines.rightAt(i);
        switch (lines.sortAt(i)) {
            case ADDRESS:
                return 0;
            case COPY:
                return bit(y);
            case LOAD:
                return bit(y) | fineSets.setOf(y);
            default:
                return bit(x) | bit(y);
        }
    }

    private boolean disturbs(int i, int j) {
        return (writesOf(i) & (writesOf(j) | readsOf(j))) != 0;
    }

    private int groupDetail(int x, int what) {
        switch (what) {
            case 0:
                return coarseSets.membersOf(coarseSets.groupOf(x));
            case 1:
                return coarseSets.groupOf(x);
            default:
                return coarseSets.targetOf(coarseSets.groupOf(x));
        }
    }

    private int counted(int what) {
        switch (what) {
            case 0:
                return coarseSets.groupCount();
            case 1:
                return coarseSets.pointingCount();
            case 2:
                return coarseSets.selfPointingCount();
            case 3:
                return fineSets.total();
            default:
                return coarseSets.total();
        }
    }

    /** The fine (how 0) or coarse set of a name, as if the line leftOut (or NONE) were not there. */
    private int mayPointTo(int x, int how, int leftOut) {
        if (how == 0) {
            fineSets.solve(lines, leftOut);
            return fineSets.setOf(x);
        }
        coarseSets.solve(lines, leftOut);
        return coarseSets.setOf(x);
    }

    private long mixedName(long start, int x) {
        long h = mixed(start, fineSets.setOf(x));
        h = mixed(h, coarseSets.setOf(x));
        h = mixed(h, groupDetail(x, 1));
        h = mixed(h, groupDetail(x, 2));
        h = mixed(h, run.endOf(x));
        return mixed(h, run.everOf(x));
    }

    private static long mixed(long h, int v) {
        return 31 * h + v;
    }

    /** Up to 14 lines; each is held as one number, so that moving and copying it is one step. */
    private static final class Lines {
        private final int[] codes = new int[MOST_LINES];
        private int size;

        int size() {
            return size;
        }

        int sortAt(int i) {
            return codes[i] >> 8;
        }

        int leftAt(int i) {
            return (codes[i] >> 4) & 15;
        }

        int rightAt(int i) {
            return codes[i] & 15;
        }

        void append(int sort, int x, int y) {
            if (size < MOST_LINES) {
                codes[size] = (sort << 8) | (x << 4) | y;
                size++;
            }
        }

        void removeAt(int i) {
            moveTo(i, size - 1);
            size--;
        }

        void moveTo(int i, int p) {
            int moved = codes[i];
            for (int k = i; k < p; k++) {
                codes[k] = codes[k + 1];
            }
            for (int k = i; k > p; k--) {
                codes[k] = codes[k - 1];
            }
            codes[p] = moved;
        }

        void removeAll() {
            size = 0;
        }

        void copyFrom(Lines other) {
            System.arraycopy(other.codes, 0, codes, 0, other.size);
            size = other.size;
        }

        int writtenLength() {
            int length = 0;
            for (int i = 0; i < size; i++) {
                length += lengthAt(i);
            }
            return length;
        }

        int writtenByte(int k) {
            int place = k;
            for (int i = 0; i < size; i++) {
                if (place < lengthAt(i)) {
                    return byteAt(i, place);
                }
                place -= lengthAt(i);
            }
            return NOT_SO_MANY;
        }

        private int lengthAt(int i) {
            return sortAt(i) == COPY ? 4 : 5;
        }

        private int byteAt(int i, int k) {
            int sort = sortAt(i);
            int place = sort == STORE ? k - 1 : k;
            // With the mark behind '=' thought to be there always, y and ';' have one place each.
            if (place >= 2 && (sort == COPY || sort == STORE)) {
                place++;
            }
            switch (place) {
                case -1:
                    return '*';
                case 0:
                    return 'a' + leftAt(i);
                case 1:
                    return '=';
                case 2:
                    return sort == ADDRESS ? '&' : '*';
                case 3:
                    return 'a' + rightAt(i);
                default:
                    return ';';
            }
        }
    }

    /** The lines as they were ahead of the last changes, the oldest first. */
    private static final class States {
        private final Lines[] kept = new Lines[MOST_STATES];
        private int size;

        States() {
            for (int k = 0; k < MOST_STATES; k++) {
                kept[k] = new Lines();
            }
        }

        int size() {
            return size;
        }

        void keep(Lines now) {
            if (size == MOST_STATES) {
                loseOldest();
            }
            kept[size].copyFrom(now);
            size++;
        }

        void restore(Lines now) {
            if (size > 0) {
                size--;
                now.copyFrom(kept[size]);
            }
        }

        private void loseOldest() {
            // The lost row is used again for the newest state: no call makes a new one.
            Lines oldest = kept[0];
            for (int k = 1; k < MOST_STATES; k++) {
                kept[k - 1] = kept[k];
            }
            kept[MOST_STATES - 1] = oldest;
            size = MOST_STATES - 1;
        }
    }

    /** The text and what it tells; the steps say what a line needs next. */
    private static final class Text {
        private static final int START = 0, LEFT_NAME = 1, EQUALS = 2, RIGHT_SIDE = 3,
                RIGHT_NAME = 4, END = 5, NOWHERE = 6;

        private final int[] bytes = new int[MOST_BYTES];
        private final Lines found = new Lines();
        private int length;
        private int sort;
        private int x;
        private int y;

        int length() {
            return length;
        }

        Lines parsed() {
            return found;
        }

        void append(int c) {
            if (length < MOST_BYTES) {
                bytes[length] = c;
                length++;
            }
        }

        void empty() {
            length = 0;
        }

        /** The place of the fault, or NONE if parsed() now has all the lines of the text. */
        int parse() {
            found.removeAll();
            int step = START;
            for (int k = 0; k < length; k++) {
                if (bytes[k] != ' ') {
                    step = stepBehind(step, bytes[k]);
                }
                if (step == NOWHERE) {
                    return k;
                }
            }
            return step == START ? NONE : length;
        }

        private int stepBehind(int step, int c) {
            switch (step) {
                case START:
                    return behindStart(c);
                case LEFT_NAME:
                    return behindLeftName(c);
                case EQUALS:
                    return c == '=' ? (sort == STORE ? RIGHT_NAME : RIGHT_SIDE) : NOWHERE;
                case RIGHT_SIDE:
                    return behindRightSide(c);
                case RIGHT_NAME:
                    return behindRightName(c);
                default:
                    return behindEnd(c);
            }
        }

        private int behindStart(int c) {
            if (found.size() >= MOST_LINES) {
                return NOWHERE;
            }
            sort = c == '*' ? STORE : COPY;
            return c == '*' ? LEFT_NAME : behindLeftName(c);
        }

        private int behindLeftName(int c) {
            x = c - 'a';
            return isName(x) ? EQUALS : NOWHERE;
        }

        private int behindRightSide(int c) {
            if (c == '&' || c == '*') {
                sort = c == '&' ? ADDRESS : LOAD;
                return RIGHT_NAME;
            }
            return behindRightName(c);
        }

        private int behindRightName(int c) {
            y = c - 'a';
            return isName(y) ? END : NOWHERE;
        }

        private int behindEnd(int c) {
            if (c != ';') {
                return NOWHERE;
            }
            found.append(sort, x, y);
            return START;
        }
    }

    /** The least sets, as bits, that hold all that the lines ask for. */
    private static final class Fine {
        private final int[] sets = new int[NAMES];

        int setOf(int x) {
            return sets[x];
        }

        int total() {
            int sum = 0;
            for (int x = 0; x < NAMES; x++) {
                sum += Integer.bitCount(sets[x]);
            }
            return sum;
        }

        void solve(Lines lines, int leftOut) {
            Arrays.fill(sets, 0);
            boolean grown = true;
            // A pass that grows adds one of 100 bits, so one pass more finds all at rest.
            for (int pass = 0; pass <= NAMES * NAMES && grown; pass++) {
                grown = false;
                for (int i = 0; i < lines.size(); i++) {
                    if (i != leftOut && apply(lines, i)) {
                        grown = true;
                    }
                }
            }
        }

        private boolean apply(Lines lines, int i) {
            int x = lines.leftAt(i);
            int y = lines.rightAt(i);
            switch (lines.sortAt(i)) {
                case ADDRESS:
                    return grow(x, bit(y));
                case COPY:
                    return grow(x, sets[y]);
                case LOAD:
                    return grow(x, unionOver(sets[y]));
                default:
                    return growAll(sets[x], sets[y]);
            }
        }

        private boolean grow(int x, int more) {
            boolean grows = (more & ~sets[x]) != 0;
            sets[x] |= more;
            return grows;
        }

        private int unionOver(int names) {
            int union = 0;
            for (int z = 0; z < NAMES; z++) {
                if (hasBit(names, z)) {
                    union |= sets[z];
                }
            }
            return union;
        }

        private boolean growAll(int names, int more) {
            boolean grows = false;
            for (int z = 0; z < NAMES; z++) {
                if (hasBit(names, z) && grow(z, more)) {
                    grows = true;
                }
            }
            return grows;
        }
    }

    /** The finest groups; a group is known by its least name. */
    private static final class Coarse {
        private final int[] groups = new int[NAMES];
        private final int[] targets = new int[NAMES];

        int groupOf(int x) {
            return groups[x];
        }

        int targetOf(int group) {
            return group == NONE ? NONE : targets[group];
        }

        int setOf(int x) {
            return membersOf(targets[groups[x]]);
        }

        int membersOf(int group) {
            int members = 0;
            for (int x = 0; x < NAMES; x++) {
                if (groups[x] == group) {
                    members |= bit(x);
                }
            }
            return members;
        }

        int groupCount() {
            int sum = 0;
            for (int x = 0; x < NAMES; x++) {
                sum += asNumber(groups[x] == x);
            }
            return sum;
        }

        int pointingCount() {
            int sum = 0;
            for (int x = 0; x < NAMES; x++) {
                sum += asNumber(targets[x] != NONE);
            }
            return sum;
        }

        int selfPointingCount() {
            int sum = 0;
            for (int x = 0; x < NAMES; x++) {
                sum += asNumber(targets[x] == x);
            }
            return sum;
        }

        int total() {
            int sum = 0;
            for (int x = 0; x < NAMES; x++) {
                sum += Integer.bitCount(setOf(x));
            }
            return sum;
        }

        void solve(Lines lines, int leftOut) {
            for (int x = 0; x < NAMES; x++) {
                groups[x] = x;
                targets[x] = NONE;
            }
            boolean changed = true;
            // A pass that changes joins groups or lets one more point: 20 times at most.
            for (int pass = 0; pass <= 2 * NAMES && changed; pass++) {
                changed = false;
                for (int i = 0; i < lines.size(); i++) {
                    if (i != leftOut && apply(lines, i)) {
                        changed = true;
                    }
                }
            }
        }

        private boolean apply(Lines lines, int i) {
            int left = groups[lines.leftAt(i)];
            int right = groups[lines.rightAt(i)];
            switch (lines.sortAt(i)) {
                case ADDRESS:
                    return point(left, right);
                case COPY:
                    return point(left, targets[right]);
                case LOAD:
                    return point(left, targetOf(targets[right]));
                default:
                    return point(targets[left], targets[right]);
            }
        }

        /** Where there is no group on a side yet, the line waits for a later pass. */
        private boolean point(int from, int to) {
            if (from == NONE || to == NONE || targets[from] == to) {
                return false;
            }
            if (targets[from] == NONE) {
                targets[from] = to;
            } else {
                join(targets[from], to);
            }
            return true;
        }

        private void join(int one, int other) {
            int a = one;
            int b = other;
            // Each join asks for at most one more: that of what the two groups point to.
            for (int step = 0; step < NAMES && a != b && a != NONE && b != NONE; step++) {
                int stays = Math.min(a, b);
                int goes = Math.max(a, b);
                rename(goes, stays);
                a = targets[stays];
                b = targets[goes];
                targets[goes] = NONE;
                if (a == NONE) {
                    targets[stays] = b;
                }
            }
        }

        private void rename(int goes, int stays) {
            for (int x = 0; x < NAMES; x++) {
                if (groups[x] == goes) {
                    groups[x] = stays;
                }
                if (targets[x] == goes) {
                    targets[x] = stays;
                }
            }
        }
    }

    /** The lines carried out in order: where each name points, has ever pointed, and the misses. */
    private static final class Run {
        private final int[] ends = new int[NAMES];
        private final int[] evers = new int[NAMES];
        private int missed;

        int endOf(int x) {
            return ends[x];
        }

        int everOf(int x) {
            return evers[x];
        }

        int missed() {
            return missed;
        }

        void play(Lines lines, int rounds) {
            Arrays.fill(ends, NONE);
            Arrays.fill(evers, 0);
            missed = 0;
            for (int round = 0; round < rounds; round++) {
                for (int i = 0; i < lines.size(); i++) {
                    carryOut(lines, i);
                }
            }
        }

        private void carryOut(Lines lines, int i) {
            int x = lines.leftAt(i);
            int y = lines.rightAt(i);
            switch (lines.sortAt(i)) {
                case ADDRESS:
                    point(x, y);
                    break;
                case COPY:
                    point(x, ends[y]);
                    break;
                case LOAD:
                    load(x, ends[y]);
                    break;
                default:
                    store(ends[x], ends[y]);
                    break;
            }
        }

        private void load(int x, int through) {
            if (through == NONE) {
                missed++;
            } else {
                point(x, ends[through]);
            }
        }

        private void store(int through, int to) {
            if (through == NONE) {
                missed++;
            } else {
                point(through, to);
            }
        }

        private void point(int x, int to) {
            ends[x] = to;
            if (to != NONE) {
                evers[x] |= bit(to);
            }
        }
    }
}
