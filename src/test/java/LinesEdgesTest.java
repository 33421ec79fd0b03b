/** Promises 1 to 6: a test for each sentence that names a boundary case. */
public final class LinesEdgesTest extends Edges {
    public static void main(String[] args) {
        sentence(1, "no LINES.", LinesEdgesTest::promise1NoLines);
        sentence(1, "As told;", LinesEdgesTest::promise1AsTold);

        sentence(2, "A LINE: its number.", LinesEdgesTest::promise2Number);
        sentence(2, "S.", LinesEdgesTest::promise2State);
        sentence(2, "BAD;", LinesEdgesTest::promise2Bad);
        sentence(2, "FULL: 14.", LinesEdgesTest::promise2Full);

        sentence(3, "A LINE goes", LinesEdgesTest::promise3Goes);
        sentence(3, "(those behind it are one nearer)", LinesEdgesTest::promise3Nearer);
        sentence(3, "how many are left.", LinesEdgesTest::promise3Left);
        sentence(3, "S.", LinesEdgesTest::promise3State);
        sentence(3, "BAD.", LinesEdgesTest::promise3Bad);

        sentence(4, "A LINE comes to place p (0 .. LINES less 1)", LinesEdgesTest::promise4Place);
        sentence(4, "the others as they were", LinesEdgesTest::promise4Others);
        sentence(4, "the place it had.", LinesEdgesTest::promise4Had);
        sentence(4, "S.", LinesEdgesTest::promise4State);
        sentence(4, "BAD.", LinesEdgesTest::promise4Bad);

        sentence(5, "SORT (what 0), x (1), y (2)", LinesEdgesTest::promise5Parts);
        sentence(5, "WRITES (3, bits)", LinesEdgesTest::promise5Writes);
        sentence(5, "READS (4, bits)", LinesEdgesTest::promise5Reads);
        sentence(5, "BAD.", LinesEdgesTest::promise5Bad);

        sentence(6, "Whether two LINES CLASH: 1, 0.", LinesEdgesTest::promise6Clash);
        sentence(6, "BAD:", LinesEdgesTest::promise6Bad);
        sentence(6, "alike, too.", LinesEdgesTest::promise6Alike);
        Check.end("LinesEdgesTest");
    }

    private static void promise1NoLines() {
        JoinedNames n = new JoinedNames();
        due("told(4)", n.told(4), 0);
        due("shown(-1)", n.shown(NONE), 0);
        due("shown(0)", n.shown(0), -5);
        due("misses(9)", n.misses(9), 0);
        due("of(0, 0)", n.of(0, 0), BAD);
        due("drops(0)", n.drops(0), BAD);
        due("moves(0, 0)", n.moves(0, 0), BAD);
        due("clash(0, 1)", n.clash(0, 1), BAD);
        due("without(0, 0, 0)", n.without(0, 0, 0), BAD);
        due("the first line's number", n.line(0, A, A), 0);
    }

    private static void promise1AsTold() {
        JoinedNames n = new JoinedNames();
        for (int what = 0; what < 6; what++) {
            due("told(" + what + ")", n.told(what), 0);
        }
        for (int x = 0; x < 10; x++) {
            due("fine", n.fine(x), 0);
            due("coarse", n.coarse(x), 0);
            due("a group for each name", n.group(x, 0), 1 << x);
            due("the least name of it", n.group(x, 1), x);
            due("it points to none", n.group(x, 2), NONE);
            due("points", n.points(9, x), NONE);
            due("seen", n.seen(9, x), 0);
        }
        due("clear", n.clear(), 0);
        due("no state", n.back(), NO);
        full();
        due("another object, made and filled, is another", new JoinedNames().told(4), 0);
    }

    private static void promise2Number() {
        JoinedNames n = new JoinedNames();
        for (int i = 0; i < 14; i++) {
            due("line " + i, n.line(i % 4, i % 10, 9 - i % 10), i);
        }
        JoinedNames m = lines(THIRTEEN);
        due("the last line behind 13 of a text", m.line(3, J, J), 13);
        m.drops(0);
        m.drops(0);
        due("a line behind drops", m.line(0, A, A), 12);
        m.back();
        due("a line behind back", m.line(0, A, A), 12);
    }

    private static void promise2State() {
        JoinedNames n = new JoinedNames();
        for (int i = 0; i < 14; i++) {
            n.line(1, A, B);
            due("states behind line " + i, n.told(5), Math.min(5, i + 1));
        }
        n.line(1, A, B);
        due("back behind a line that was FULL", n.back(), 4);
        due("lines behind back", n.told(4), 13);
        JoinedNames m = some();
        m.line(4, A, B);
        due("no state of a line that was BAD", m.told(5), 3);
    }

    private static void promise2Bad() {
        dueRange("line, sort", JoinedNames::new, (n, v) -> n.line(v, A, B), 0, 3);
        dueRange("line, x", JoinedNames::new, (n, v) -> n.line(0, v, B), 0, 9);
        dueRange("line, y", JoinedNames::new, (n, v) -> n.line(0, A, v), 0, 9);
        dueRange("line of some, sort", Edges::some, (n, v) -> n.line(v, J, J), 0, 3);
        dueRange("line of some, x", Edges::some, (n, v) -> n.line(3, v, J), 0, 9);
        dueRange("line of some, y", Edges::some, (n, v) -> n.line(3, J, v), 0, 9);
        dueStays("line, all three wrong, is BAD once", Edges::some, n -> n.line(4, 10, 10), BAD);
    }

    private static void promise2Full() {
        dueStays("the 15th line", Edges::full, n -> n.line(0, A, B), FULL);
        dueStays("the 15th line behind a text of 14", () -> lines(FOURTEEN), n -> n.line(3, J, J), FULL);
        dueStays("the 15th line with a wrong sort", Edges::full, n -> n.line(4, A, B), BAD);
        dueStays("the 15th line with a wrong x", Edges::full, n -> n.line(0, -1, B), BAD);
        dueStays("the 15th line with a wrong y", Edges::full, n -> n.line(0, A, 10), BAD);
        JoinedNames n = full();
        due("FULL once", n.line(1, A, A), FULL);
        due("FULL twice", n.line(1, A, A), FULL);
        due("FULL told twice", n.told(2), 2);
        due("drops of one", n.drops(13), 13);
        due("there is room for one", n.line(1, A, A), 13);
        due("and no more", n.line(1, A, A), FULL);
    }

    private static void promise3Goes() {
        JoinedNames first = lines("a=b;c=d;e=f;");
        first.drops(0);
        dueLines("without the first", first, "c=d;e=f;");
        JoinedNames last = lines("a=b;c=d;e=f;");
        last.drops(2);
        dueLines("without the last", last, "a=b;c=d;");
        JoinedNames only = lines("*a=b;");
        only.drops(0);
        dueLines("without the only one", only, "");
        JoinedNames full = lines(THIRTEEN + "c=&d;");
        full.drops(13);
        dueLines("without the 14th", full, THIRTEEN);
        due("what the line asked for is gone", full.fine(C), 0);
    }

    private static void promise3Nearer() {
        JoinedNames n = new JoinedNames();
        for (int i = 0; i < 14; i++) {
            n.line(1, i % 10, i / 10);
        }
        n.drops(0);
        for (int i = 0; i < 13; i++) {
            due("x of line " + i, n.of(i, 1), (i + 1) % 10);
            due("y of line " + i, n.of(i, 2), (i + 1) / 10);
        }
        due("the last place is free", n.of(13, 0), BAD);
    }

    private static void promise3Left() {
        JoinedNames n = lines(FOURTEEN);
        for (int left = 13; left >= 0; left--) {
            due("drops, first and last by turns", n.drops(left % 2 == 0 ? 0 : left), left);
        }
        due("drops of none", n.drops(0), BAD);
    }

    private static void promise3State() {
        JoinedNames n = lines("a=b;c=d;");
        n.drops(1);
        due("states", n.told(5), 2);
        n.drops(0);
        due("states, none left", n.told(5), 3);
        n.drops(0);
        due("no state of a refused one", n.told(5), 3);
        n.back();
        dueLines("behind back", n, "a=b;");
        n.back();
        dueLines("behind back twice", n, "a=b;c=d;");
    }

    private static void promise3Bad() {
        dueRange("drops of none", JoinedNames::new, JoinedNames::drops, 0, -1);
        dueRange("drops of one", () -> lines("a=b;"), JoinedNames::drops, 0, 0);
        dueRange("drops of three", Edges::some, JoinedNames::drops, 0, 2);
        dueRange("drops of 14", Edges::full, JoinedNames::drops, 0, 13);
        dueRange("drops behind back", LinesEdgesTest::twoOfThree, JoinedNames::drops, 0, 1);
    }

    /** A third line was there and is taken back: its number is no longer one. */
    private static JoinedNames twoOfThree() {
        JoinedNames n = some();
        n.back();
        return n;
    }

    private static void promise4Place() {
        JoinedNames n = lines("a=b;b=c;c=d;");
        n.moves(2, 0);
        dueLines("last to place 0", n, "c=d;a=b;b=c;");
        n.moves(0, 2);
        dueLines("first to the last place", n, "a=b;b=c;c=d;");
        n.moves(1, 1);
        dueLines("to its own place", n, "a=b;b=c;c=d;");
        JoinedNames one = lines("j=*j;");
        due("the only place", one.moves(0, 0), 0);
        dueLines("of the only one", one, "j=*j;");
        dueRange("moves to p of one", () -> lines("a=b;"), (m, p) -> m.moves(0, p), 0, 0);
        dueRange("moves to p of three", Edges::some, (m, p) -> m.moves(1, p), 0, 2);
        dueRange("moves to p of 14", Edges::full, (m, p) -> m.moves(13, p), 0, 13);
    }

    private static void promise4Others() {
        for (int i = 0; i < 14; i++) {
            for (int p = 0; p < 14; p++) {
                StringBuilder names = new StringBuilder("abcdefghijABCD");
                JoinedNames n = new JoinedNames();
                for (int k = 0; k < 14; k++) {
                    n.line(k / 10, k % 10, J);
                }
                n.moves(i, p);
                char moved = names.charAt(i);
                names.deleteCharAt(i).insert(p, moved);
                Check.due("order behind moves(" + i + ", " + p + ")", orderOf(n), names.toString());
            }
        }
    }

    /** The x of each line, as a small letter for sort 0 and a large one for sort 1. */
    private static String orderOf(JoinedNames n) {
        StringBuilder b = new StringBuilder();
        for (int k = 0; k < n.told(4); k++) {
            b.append((char) ((n.of(k, 0) == 0 ? 'a' : 'A') + n.of(k, 1)));
        }
        return b.toString();
    }

    private static void promise4Had() {
        JoinedNames n = full();
        due("from the first place", n.moves(0, 13), 0);
        due("from the last place", n.moves(13, 0), 13);
        due("from its own place", n.moves(7, 7), 7);
    }

    private static void promise4State() {
        JoinedNames n = lines("a=b;b=c;");
        n.moves(0, 1);
        due("states", n.told(5), 2);
        n.moves(0, 0);
        due("states, nothing changed", n.told(5), 3);
        n.moves(0, 2);
        due("no state of a refused one", n.told(5), 3);
        n.back();
        dueLines("behind back of nothing", n, "b=c;a=b;");
        n.back();
        dueLines("behind back", n, "a=b;b=c;");
    }

    private static void promise4Bad() {
        dueRange("moves i of none", JoinedNames::new, (n, i) -> n.moves(i, 0), 0, -1);
        dueRange("moves p of none", JoinedNames::new, (n, p) -> n.moves(0, p), 0, -1);
        dueRange("moves i of one", () -> lines("a=b;"), (n, i) -> n.moves(i, 0), 0, 0);
        dueRange("moves i of three", Edges::some, (n, i) -> n.moves(i, 1), 0, 2);
        dueRange("moves i of 14", Edges::full, (n, i) -> n.moves(i, 0), 0, 13);
        dueRange("moves i to itself", Edges::some, (n, i) -> n.moves(i, i), 0, 2);
        dueStays("moves, both wrong, is BAD once", Edges::some, n -> n.moves(3, -1), BAD);
    }

    private static void promise5Parts() {
        for (int sort = 0; sort < 4; sort++) {
            for (int x = 0; x < 10; x++) {
                for (int y = 0; y < 10; y++) {
                    JoinedNames n = new JoinedNames();
                    n.line(sort, x, y);
                    due("SORT", n.of(0, 0), sort);
                    due("x", n.of(0, 1), x);
                    due("y", n.of(0, 2), y);
                }
            }
        }
    }

    private static void promise5Writes() {
        due("x of sort 0, the first name", lines("a=&j;").of(0, 3), bits("a"));
        due("x of sort 1, the last name", lines("j=a;").of(0, 3), bits("j"));
        due("x of sort 2", lines("j=*a;").of(0, 3), bits("j"));
        due("none through x that has none", lines("*j=j;").of(0, 3), 0);
        due("x itself through x", lines("*j=a;j=&j;").of(0, 3), bits("j"));
        due("all ten through x", lines(allOf('a') + "*a=b;").of(10, 3), 1023);
        due("all ten through another", lines("*j=b;" + allOf('a') + "j=a;").of(0, 3), 1023);
    }

    private static void promise5Reads() {
        due("none of sort 0", lines("a=&j;").of(0, 4), 0);
        due("none of sort 0, x and y alike", lines("j=&j;").of(0, 4), 0);
        due("y of sort 1", lines("a=j;").of(0, 4), bits("j"));
        due("y of sort 1, all that y has is not read", lines("j=&a;a=j;").of(1, 4), bits("j"));
        due("y of sort 2 that has none", lines("a=*j;").of(0, 4), bits("j"));
        due("y of sort 2 that has itself", lines("a=*j;j=&j;").of(0, 4), bits("j"));
        due("y of sort 2 that has all ten", lines(allOf('j') + "a=*j;").of(10, 4), 1023);
        due("x and y of sort 3", lines("*a=j;").of(0, 4), bits("aj"));
        due("x and y of sort 3, alike", lines("*j=j;").of(0, 4), bits("j"));
        due("x and y of sort 3, not what they have", lines("a=&b;c=&d;*a=c;").of(2, 4), bits("ac"));
    }

    private static void promise5Bad() {
        dueRange("of i of none", JoinedNames::new, (n, i) -> n.of(i, 0), 0, -1);
        dueRange("of i of one", () -> lines("a=b;"), (n, i) -> n.of(i, 4), 0, 0);
        dueRange("of i of three", Edges::some, (n, i) -> n.of(i, 3), 0, 2);
        dueRange("of i of 14", Edges::full, (n, i) -> n.of(i, 0), 0, 13);
        dueRange("of what", Edges::some, (n, what) -> n.of(0, what), 0, 4);
        dueRange("of what of none", JoinedNames::new, (n, what) -> n.of(0, what), 0, -1);
        dueStays("of, both wrong, is BAD once", Edges::some, n -> n.of(3, 5), BAD);
    }

    private static void promise6Clash() {
        dueClash("a=b;a=c;", 1, "both write a");
        dueClash("a=b;c=a;", 1, "one writes what the other reads");
        dueClash("a=b;c=b;", 0, "both only read b");
        dueClash("a=&b;c=&b;", 0, "both only name b");
        dueClash("a=&b;b=&c;", 0, "sort 0 does not read");
        dueClash("j=a;a=j;", 1, "each reads what the other writes");
        dueClash("*a=b;*a=c;", 0, "nothing is written through a");
        dueClash("*a=b;*a=c;a=&d;", 1, "both write d");
        dueClash("*a=b;c=*d;a=&e;d=&f;", 0, "written and read through, apart");
        dueClash("*a=b;c=*d;a=&e;d=&e;", 1, "written and read through, e");
        dueClash("*a=b;c=d;a=&d;", 1, "written through, and read");
        dueClash("*a=b;d=c;a=&d;", 1, "written through, and written");
        dueClash("*a=b;b=c;", 1, "y of sort 3 is read");
        dueClash("*a=b;a=c;", 1, "x of sort 3 is read");
        due("the first and the last of 14", lines(THIRTEEN + "c=a;").clash(0, 13), 1);
        due("the last and the first of 14", lines(THIRTEEN + "c=b;").clash(13, 0), 0);
    }

    /** Of lines 0 and 1 of a text, asked both ways round. */
    private static void dueClash(String text, int want, String why) {
        JoinedNames n = lines(text);
        due("clash(0, 1): " + why, n.clash(0, 1), want);
        due("clash(1, 0): " + why, n.clash(1, 0), want);
    }

    private static void promise6Bad() {
        dueRange("clash i of none", JoinedNames::new, (n, i) -> n.clash(i, 1), 0, -1);
        dueRange("clash j of none", JoinedNames::new, (n, j) -> n.clash(1, j), 0, -1);
        dueRange("clash i of two", () -> lines("a=b;c=d;"), (n, i) -> n.clash(i, 1), 0, 0);
        dueRange("clash j of two", () -> lines("a=b;c=d;"), (n, j) -> n.clash(0, j), 1, 1);
        dueRange("clash i of 14", Edges::full, (n, i) -> n.clash(i, 13), 0, 12);
        dueRange("clash j of 14", Edges::full, (n, j) -> n.clash(0, j), 1, 13);
    }

    private static void promise6Alike() {
        for (int i = 0; i < 14; i++) {
            int line = i;
            dueStays("clash(" + i + ", " + i + ")", Edges::full, n -> n.clash(line, line), BAD);
        }
        dueStays("clash of one line with itself", () -> lines("*a=b;"), n -> n.clash(0, 0), BAD);
        dueStays("clash alike and wrong is BAD once", Edges::full, n -> n.clash(14, 14), BAD);
        due("two lines that read alike are two", lines("a=b;a=b;").clash(0, 1), 1);
    }
}
