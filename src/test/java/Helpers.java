import java.util.ArrayList;
import java.util.List;

/** What the tests share: lines told as a text, sets told as a word, and what an object shows. */
abstract class Helpers {
    static final int NONE = -1, BAD = -2, NO = -3, FULL = -4;
    static final int LEAST = Integer.MIN_VALUE, MOST = Integer.MAX_VALUE;
    static final int A = 0, B = 1, C = 2, D = 3, E = 4, F = 5, G = 6, H = 7, I = 8, J = 9;

    static void due(String call, long got, long want) {
        Check.due(call, got, want);
    }

    /** The names of a word, as bits. */
    static int bits(String names) {
        int set = 0;
        for (int k = 0; k < names.length(); k++) {
            set |= 1 << (names.charAt(k) - 'a');
        }
        return set;
    }

    static void type(JoinedNames n, String text) {
        for (int k = 0; k < text.length(); k++) {
            n.type(text.charAt(k));
        }
    }

    static int reads(JoinedNames n, String text) {
        n.clear();
        type(n, text);
        return n.reads();
    }

    static JoinedNames lines(String text) {
        JoinedNames n = new JoinedNames();
        int answer = reads(n, text);
        if (answer < 0) {
            due("reads() of " + text, answer, 0);
        }
        return n;
    }

    static String shown(JoinedNames n) {
        StringBuilder b = new StringBuilder();
        int length = n.shown(NONE);
        for (int k = 0; k < length; k++) {
            b.append((char) n.shown(k));
        }
        return b.toString();
    }

    static void dueLines(String where, JoinedNames n, String want) {
        Check.due("lines " + where, shown(n), want);
    }

    /** What a digest is made of, asked one by one. */
    static List<Integer> partsOf(JoinedNames n) {
        List<Integer> parts = new ArrayList<>();
        for (int what = 0; what < 6; what++) {
            parts.add(n.told(what));
        }
        int size = n.told(4);
        for (int i = 0; i < size; i++) {
            for (int what = 0; what < 5; what++) {
                parts.add(n.of(i, what));
            }
        }
        for (int x = 0; x < 10; x++) {
            parts.addAll(List.of(n.fine(x), n.coarse(x), n.group(x, 1), n.group(x, 2), n.points(2, x), n.seen(2, x)));
        }
        for (int what = 0; what < 5; what++) {
            parts.add(n.count(what));
        }
        parts.add(n.misses(2));
        return parts;
    }

    static long mixed(List<Integer> parts) {
        long h = 2531;
        for (int v : parts) {
            h = 31 * h + v;
        }
        return h;
    }
}
