import java.io.IOException;
import java.io.UncheckedIOException;
import java.nio.file.Files;
import java.nio.file.Path;
import java.util.TreeSet;
import java.util.function.Supplier;
import java.util.function.ToIntFunction;

/**
 * For tests of single sentences of the document: a sentence is given in the document's own words,
 * looked up there, and printed with its promise's number ahead of each wrong answer.
 */
abstract class Edges extends Helpers {
    /** Lines of four bytes each: the fourteen are 56 bytes. */
    static final String THIRTEEN = "a=b;".repeat(13);
    static final String FOURTEEN = "a=b;".repeat(14);
    static final String NAMES = "abcdefghij";

    private static final String DOCUMENT = readDocument();

    /** A call with one of its numbers left open. */
    interface Call {
        int with(JoinedNames n, int number);
    }

    static void sentence(int promise, String words, Runnable test) {
        hold("promise " + promise + " '" + words + "': ", "## Promise " + promise + ":", words, test);
    }

    /** A sentence of "Terms", with the promises that it bears on. */
    static void term(String promises, String words, Runnable test) {
        hold("promise " + promises + ", Terms '" + words + "': ", "## Terms", words, test);
    }

    /** A sentence of "What it is", with the promises that it bears on. */
    static void whatItIs(String promises, String words, Runnable test) {
        hold("promise " + promises + ", What it is '" + words + "': ", "## What it is", words, test);
    }

    private static void hold(String heading, String section, String words, Runnable test) {
        Check.under(heading);
        due("stands in the document", sectionOf(section).contains(words) ? 1 : 0, 1);
        int before = Check.made();
        test.run();
        due("is tested", Check.made() > before ? 1 : 0, 1);
        Check.under("");
    }

    private static String readDocument() {
        try {
            return Files.readString(Path.of("../shared/DOC.md")).replaceAll("\\s+", " ");
        } catch (IOException e) {
            throw new UncheckedIOException(e);
        }
    }

    private static String sectionOf(String heading) {
        int start = DOCUMENT.indexOf(heading);
        int end = start < 0 ? -1 : DOCUMENT.indexOf(" ## ", start);
        return start < 0 || end < 0 ? "" : DOCUMENT.substring(start, end);
    }

    // ---- objects to begin with

    /** Three lines, three states, four bytes, and one refusal of BAD and of NO each. */
    static JoinedNames some() {
        JoinedNames n = new JoinedNames();
        n.back();
        n.fine(10);
        n.line(0, A, B);
        n.line(2, C, A);
        n.line(3, C, J);
        type(n, "e=*f");
        return n;
    }

    /** All that there is room for: 14 lines, five states, 120 bytes. */
    static JoinedNames full() {
        JoinedNames n = new JoinedNames();
        type(n, "a=&b;a=&c;d=a;e=*a;*a=f;f=&g;j=&j;*j=d;h=*j;i=j;b=&a;g=f;*g=h;c=&i;");
        n.reads();
        for (int k = n.told(3); k < 120; k++) {
            n.type(' ');
        }
        for (int p = 1; p <= 6; p++) {
            n.moves(0, p);
        }
        return n;
    }

    /** Ten lines: a name may point to each name. */
    static String allOf(char x) {
        StringBuilder b = new StringBuilder();
        for (char y : NAMES.toCharArray()) {
            b.append(x).append("=&").append(y).append(';');
        }
        return b.toString();
    }

    // ---- ranges

    /** BAD, counted and else changing nothing, for each number that is not from .. to. */
    static void dueRange(String call, Supplier<JoinedNames> made, Call asked, int from, int to) {
        for (int number : numbersAround(from, to)) {
            JoinedNames n = made.get();
            int before = n.told(0);
            int bad = number < from || number > to ? 1 : 0;
            due(call + " with " + number + " is BAD", asked.with(n, number) == BAD ? 1 : 0, bad);
            due(call + " with " + number + ", BAD counted", n.told(0) - before, bad);
        }
        for (int number : new int[] {LEAST, from - 1, to + 1, MOST}) {
            if (number < from || number > to) {
                dueStays(call + " with " + number, made, n -> asked.with(n, number), BAD);
            }
        }
    }

    /** Near ones, far ones, and those that would fall into the range if cut to a byte or a short. */
    private static TreeSet<Integer> numbersAround(int from, int to) {
        TreeSet<Integer> numbers = new TreeSet<>();
        for (long k = -20; k <= 20; k++) {
            for (long near : new long[] {from, to, 0, 128, 256, -256, 65536, -65536, LEAST, MOST}) {
                if (near + k >= LEAST && near + k <= MOST) {
                    numbers.add((int) (near + k));
                }
            }
        }
        return numbers;
    }

    // ---- what stays

    /** The answer is as due, and nothing is changed by the call but the count of its refusal. */
    static void dueStays(String call, Supplier<JoinedNames> made, ToIntFunction<JoinedNames> asked, int want) {
        JoinedNames n = made.get();
        int[] before = {n.told(0), n.told(1), n.told(2)};
        due(call, asked.applyAsInt(n), want);
        for (int what = 0; what < 3; what++) {
            int more = want == BAD - what ? 1 : 0;
            due(call + ", refusals told(" + what + ")", n.told(what) - before[what], more);
        }
        Supplier<JoinedNames> behind = () -> {
            JoinedNames m = made.get();
            asked.applyAsInt(m);
            return m;
        };
        Check.due(call + ", all else", portrait(behind), portrait(made));
    }

    /**
     * All that can be seen of an object but the counts of refusals. Each part is seen on an object of
     * its own, as looking at the states and at the text changes them.
     */
    static String portrait(Supplier<JoinedNames> made) {
        StringBuilder b = new StringBuilder(answers(made.get()));
        for (int backs = 0; backs <= 6; backs++) {
            JoinedNames n = made.get();
            for (int k = 0; k < backs; k++) {
                b.append(" back ").append(n.back());
            }
            b.append(' ').append(shown(n));
        }
        JoinedNames n = made.get();
        b.append(" reads ").append(n.reads()).append(' ').append(shown(n));
        b.append(" clear ").append(n.clear());
        return b.toString();
    }

    private static String answers(JoinedNames n) {
        StringBuilder b = new StringBuilder();
        for (int what = 3; what < 6; what++) {
            b.append(n.told(what)).append(' ');
        }
        int size = n.told(4);
        for (int i = 0; i < size; i++) {
            for (int what = 0; what < 5; what++) {
                b.append(n.of(i, what)).append(' ');
            }
        }
        for (int x = 0; x < 10; x++) {
            int[] row = {n.fine(x), n.coarse(x), n.group(x, 0), n.group(x, 1), n.group(x, 2), n.points(2, x), n.seen(2, x)};
            for (int v : row) {
                b.append(v).append(' ');
            }
        }
        return b.append(n.misses(2)).toString();
    }
}
