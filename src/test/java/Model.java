import java.util.ArrayDeque;
import java.util.ArrayList;
import java.util.Deque;
import java.util.List;
import java.util.regex.Matcher;
import java.util.regex.Pattern;

/**
 * The document reckoned a second time, in other ways than the class does it: relations between
 * single names instead of bits and groups, a regular expression instead of steps.
 */
final class Model {
    private static final int NAMES = 10;
    private static final Pattern LINES =
        Pattern.compile("(?:(?:[a-j]=[&*]?[a-j]|\\*[a-j]=[a-j]);){0,14}");

    private List<int[]> lines = new ArrayList<>();
    private final Deque<List<int[]>> states = new ArrayDeque<>();
    private final StringBuilder text = new StringBuilder();
    private final int[] refused = new int[3];

    private static boolean in(int number, int from, int to) {
        return from <= number && number <= to;
    }

    private boolean names(int... xs) {
        for (int x : xs) {
            if (!in(x, 0, 9)) {
                return false;
            }
        }
        return true;
    }

    private boolean line(int i) {
        return in(i, 0, lines.size() - 1);
    }

    private int bad() {
        refused[0]++;
        return -2;
    }

    private void change(List<int[]> next) {
        states.addLast(lines);
        if (states.size() > 5) {
            states.removeFirst();
        }
        lines = next;
    }

    int line(int sort, int x, int y) {
        if (!in(sort, 0, 3) || !names(x, y)) {
            return bad();
        }
        if (lines.size() == 14) {
            refused[2]++;
            return -4;
        }
        List<int[]> next = new ArrayList<>(lines);
        next.add(new int[] {sort, x, y});
        change(next);
        return next.size() - 1;
    }

    int drops(int i) {
        if (!line(i)) {
            return bad();
        }
        List<int[]> next = new ArrayList<>(lines);
        next.remove(i);
        change(next);
        return next.size();
    }

    int moves(int i, int p) {
        if (!line(i) || !line(p)) {
            return bad();
        }
        List<int[]> next = new ArrayList<>(lines);
        next.add(p, next.remove(i));
        change(next);
        return i;
    }

    int of(int i, int what) {
        if (!line(i) || !in(what, 0, 4)) {
            return bad();
        }
        return what < 3 ? lines.get(i)[what] : what == 3 ? writes(i) : readsBits(i);
    }

    private int writes(int i) {
        int[] l = lines.get(i);
        int set = 0;
        for (int z = 0; z < NAMES; z++) {
            boolean written = l[0] == 3 ? fineOf(lines)[l[1]][z] : z == l[1];
            set += written ? 1 << z : 0;
        }
        return set;
    }

    private int readsBits(int i) {
        int[] l = lines.get(i);
        int set = 0;
        for (int z = 0; z < NAMES; z++) {
            boolean read = l[0] != 0 && z == l[2] || l[0] == 3 && z == l[1]
                || l[0] == 2 && fineOf(lines)[l[2]][z];
            set += read ? 1 << z : 0;
        }
        return set;
    }

    int clash(int i, int j) {
        if (!line(i) || !line(j) || i == j) {
            return bad();
        }
        boolean both = (writes(i) & writes(j)) != 0;
        return both || (writes(i) & readsBits(j)) != 0 || (writes(j) & readsBits(i)) != 0 ? 1 : 0;
    }

    private static boolean[][] fineOf(List<int[]> lines) {
        boolean[][] has = new boolean[NAMES][NAMES];
        for (boolean more = true; more;) {
            more = false;
            for (int[] l : lines) {
                for (int a = 0; a < NAMES; a++) {
                    for (int b = 0; b < NAMES; b++) {
                        int gets = l[0] == 3 ? a : l[1];
                        boolean got = l[0] == 0 ? b == l[2]
                            : l[0] == 1 ? has[l[2]][b]
                            : l[0] == 2 ? has[l[2]][a] && has[a][b]
                            : has[l[1]][a] && has[l[2]][b];
                        if (got && !has[gets][b]) {
                            has[gets][b] = true;
                            more = true;
                        }
                    }
                }
            }
        }
        return has;
    }

    /** [0]: whether two names are in one group; [1]: whether the group of one points to the other's. */
    private static boolean[][][] coarseOf(List<int[]> lines) {
        boolean[][] same = new boolean[NAMES][NAMES];
        boolean[][] to = new boolean[NAMES][NAMES];
        for (int a = 0; a < NAMES; a++) {
            same[a][a] = true;
        }
        for (boolean more = true; more;) {
            more = false;
            for (int[] l : lines) {
                more |= ask(l, to);
            }
            more |= close(same, to);
        }
        return new boolean[][][] {same, to};
    }

    private static boolean ask(int[] l, boolean[][] to) {
        boolean more = false;
        for (int a = 0; a < NAMES; a++) {
            for (int b = 0; b < NAMES; b++) {
                int from = l[0] == 3 ? a : l[1];
                boolean asked = l[0] == 0 ? b == l[2]
                    : l[0] == 1 ? to[l[2]][b]
                    : l[0] == 2 ? to[l[2]][a] && to[a][b]
                    : to[l[1]][a] && to[l[2]][b];
                if (asked && !to[from][b]) {
                    to[from][b] = true;
                    more = true;
                }
            }
        }
        return more;
    }

    private static boolean close(boolean[][] same, boolean[][] to) {
        boolean more = false;
        for (int a = 0; a < NAMES; a++) {
            for (int b = 0; b < NAMES; b++) {
                for (int c = 0; c < NAMES; c++) {
                    if (!same[b][c] && (to[a][b] && to[a][c] || same[b][a] && same[a][c])) {
                        same[b][c] = true;
                        same[c][b] = true;
                        more = true;
                    }
                    if (!to[b][c] && (same[b][a] && to[a][c] || to[b][a] && same[a][c])) {
                        to[b][c] = true;
                        more = true;
                    }
                }
            }
        }
        return more;
    }

    private static int bits(boolean[] set) {
        int bits = 0;
        for (int z = 0; z < NAMES; z++) {
            bits += set[z] ? 1 << z : 0;
        }
        return bits;
    }

    int fine(int x) {
        return names(x) ? bits(fineOf(lines)[x]) : bad();
    }

    int coarse(int x) {
        return names(x) ? bits(coarseOf(lines)[1][x]) : bad();
    }

    private static int least(boolean[] set) {
        for (int z = 0; z < NAMES; z++) {
            if (set[z]) {
                return z;
            }
        }
        return -1;
    }

    int group(int x, int what) {
        if (!names(x) || !in(what, 0, 2)) {
            return bad();
        }
        boolean[][][] c = coarseOf(lines);
        return what == 0 ? bits(c[0][x]) : what == 1 ? least(c[0][x]) : least(c[1][x]);
    }

    int count(int what) {
        if (!in(what, 0, 4)) {
            return bad();
        }
        boolean[][][] c = coarseOf(lines);
        boolean[][] f = fineOf(lines);
        int sum = 0;
        for (int x = 0; x < NAMES; x++) {
            boolean first = least(c[0][x]) == x;
            boolean points = least(c[1][x]) >= 0;
            sum += what == 0 && first ? 1 : 0;
            sum += what == 1 && first && points ? 1 : 0;
            sum += what == 2 && first && c[1][x][x] ? 1 : 0;
            sum += what == 3 ? Integer.bitCount(bits(f[x])) : 0;
            sum += what == 4 ? Integer.bitCount(bits(c[1][x])) : 0;
        }
        return sum;
    }

    private static boolean[][] sets(List<int[]> lines, int how) {
        return how == 0 ? fineOf(lines) : coarseOf(lines)[1];
    }

    int alias(int x, int y, int how) {
        if (!names(x, y) || !in(how, 0, 1)) {
            return bad();
        }
        boolean[][] s = sets(lines, how);
        for (int z = 0; z < NAMES; z++) {
            if (s[x][z] && s[y][z]) {
                return 1;
            }
        }
        return 0;
    }

    int without(int i, int x, int what) {
        if (!line(i) || !names(x) || !in(what, 0, 1)) {
            return bad();
        }
        List<int[]> rest = new ArrayList<>(lines);
        rest.remove(i);
        int all = Integer.bitCount(bits(sets(lines, what)[x]));
        return all - Integer.bitCount(bits(sets(rest, what)[x]));
    }

    /** [0]: where names point, [1]: what is seen of them, as bits, [2]: the misses. */
    private int[][] run(int n) {
        Integer[] at = new Integer[NAMES];
        int[][] shows = new int[][] {new int[NAMES], new int[NAMES], new int[1]};
        for (int round = 1; round <= n; round++) {
            for (int[] l : lines) {
                Integer over = l[0] == 2 ? at[l[2]] : l[0] == 3 ? at[l[1]] : Integer.valueOf(0);
                if (over == null) {
                    shows[2][0]++;
                } else if (l[0] == 3) {
                    at[over] = at[l[2]];
                } else {
                    at[l[1]] = l[0] == 0 ? Integer.valueOf(l[2]) : l[0] == 1 ? at[l[2]] : at[over];
                }
                for (int x = 0; x < NAMES; x++) {
                    shows[1][x] |= at[x] == null ? 0 : 1 << at[x];
                }
            }
        }
        for (int x = 0; x < NAMES; x++) {
            shows[0][x] = at[x] == null ? -1 : at[x];
        }
        return shows;
    }

    int points(int n, int x) {
        return in(n, 0, 9) && names(x) ? run(n)[0][x] : bad();
    }

    int seen(int n, int x) {
        return in(n, 0, 9) && names(x) ? run(n)[1][x] : bad();
    }

    int misses(int n) {
        return in(n, 0, 9) ? run(n)[2][0] : bad();
    }

    int type(int c) {
        if (!in(c, 0, 127)) {
            return bad();
        }
        if (text.length() == 120) {
            refused[2]++;
            return -4;
        }
        return text.append((char) c).length();
    }

    int clear() {
        int had = text.length();
        text.setLength(0);
        return had;
    }

    /** Whether more bytes could make a text of lines of this beginning. */
    private static boolean begins(String part) {
        Matcher m = LINES.matcher(part.replace(" ", ""));
        return m.matches() || m.hitEnd();
    }

    int reads() {
        for (int k = 0; k < text.length(); k++) {
            if (!begins(text.substring(0, k + 1))) {
                return -10 - k;
            }
        }
        String dense = text.toString().replace(" ", "");
        if (!LINES.matcher(dense).matches()) {
            return -10 - text.length();
        }
        List<int[]> next = new ArrayList<>();
        for (String s : dense.isEmpty() ? new String[0] : dense.split(";")) {
            int sort = s.charAt(0) == '*' ? 3 : s.contains("*") ? 2 : s.contains("&") ? 0 : 1;
            String bare = s.replaceAll("[^a-j]", "");
            next.add(new int[] {sort, bare.charAt(0) - 'a', bare.charAt(1) - 'a'});
        }
        change(next);
        return next.size();
    }

    String written() {
        String[] forms = {"x=&y;", "x=y;", "x=*y;", "*x=y;"};
        StringBuilder b = new StringBuilder();
        for (int[] l : lines) {
            String x = String.valueOf((char) ('a' + l[1]));
            String y = String.valueOf((char) ('a' + l[2]));
            b.append(forms[l[0]].replace("x", x).replace("y", y));
        }
        return b.toString();
    }

    int shown(int k) {
        if (k < -1) {
            return bad();
        }
        String w = written();
        return k == -1 ? w.length() : k < w.length() ? w.charAt(k) : -5;
    }

    int back() {
        if (states.isEmpty()) {
            refused[1]++;
            return -3;
        }
        lines = states.removeLast();
        return states.size();
    }

    int told(int what) {
        int[] all = {refused[0], refused[1], refused[2], text.length(), lines.size(), states.size()};
        return in(what, 0, 5) ? all[what] : bad();
    }

    long digest() {
        List<Integer> vs = new ArrayList<>();
        for (int what = 0; what <= 5; what++) {
            vs.add(told(what));
        }
        for (int i = 0; i < lines.size(); i++) {
            for (int what = 0; what <= 4; what++) {
                vs.add(of(i, what));
            }
        }
        boolean[][] f = fineOf(lines);
        boolean[][][] c = coarseOf(lines);
        int[][] shows = run(2);
        for (int x = 0; x < NAMES; x++) {
            vs.addAll(List.of(bits(f[x]), bits(c[1][x]), least(c[0][x]), least(c[1][x]),
                shows[0][x], shows[1][x]));
        }
        for (int what = 0; what <= 4; what++) {
            vs.add(count(what));
        }
        vs.add(shows[2][0]);
        long h = 2531;
        for (int v : vs) {
            h = 31 * h + v;
        }
        return h;
    }
}
