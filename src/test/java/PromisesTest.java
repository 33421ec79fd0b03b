/** A method for each promise of the document: ordinary inputs, the edges it names, wrong inputs. */
public final class PromisesTest extends Helpers {
    public static void main(String[] args) {
        promise1NewObject();
        promise2Line();
        promise3Drops();
        promise4Moves();
        promise5Of();
        promise6Clash();
        promise7Fine();
        promise8Coarse();
        promise9Group();
        promise10Count();
        promise11Alias();
        promise12Without();
        promise13Points();
        promise14Seen();
        promise15Misses();
        promise16Type();
        promise17Clear();
        promise18Reads();
        promise18Faults();
        promise19Shown();
        promise20Back();
        promise21Told();
        promise22Digest();
        Check.end("PromisesTest");
    }

    private static void promise1NewObject() {
        JoinedNames n = new JoinedNames();
        for (int what = 0; what < 6; what++) {
            due("new told(" + what + ")", n.told(what), 0);
        }
        for (int x = 0; x < 10; x++) {
            due("new fine", n.fine(x), 0);
            due("new coarse", n.coarse(x), 0);
            due("new group 0", n.group(x, 0), 1 << x);
            due("new group 1", n.group(x, 1), x);
            due("new group 2", n.group(x, 2), NONE);
            due("new points", n.points(9, x), NONE);
            due("new seen", n.seen(9, x), 0);
        }
        due("new shown", n.shown(NONE), 0);
        due("new misses", n.misses(9), 0);
        due("new back", n.back(), NO);
        JoinedNames other = lines("a=&b;");
        due("a second object stands alone", n.fine(A) + other.fine(A), bits("b"));
    }

    private static void promise2Line() {
        JoinedNames n = new JoinedNames();
        int[][] wrong = {{-1, 0, 0}, {4, 0, 0}, {0, -1, 0}, {0, 10, 0}, {0, 0, -1}, {0, 0, 10},
            {LEAST, 0, 0}, {MOST, 0, 0}, {0, LEAST, 0}, {0, MOST, 0}, {0, 0, LEAST}, {0, 0, MOST}};
        for (int[] w : wrong) {
            due("line wrong", n.line(w[0], w[1], w[2]), BAD);
        }
        due("line wrong leaves no state", n.told(5), 0);
        due("line 0", n.line(0, A, J), 0);
        due("line 1", n.line(1, J, A), 1);
        due("line 2", n.line(2, B, C), 2);
        due("line 3", n.line(3, B, B), 3);
        dueLines("of four sorts", n, "a=&j;j=a;b=*c;*b=b;");
        due("line leaves states", n.told(5), 4);
        for (int i = 4; i < 14; i++) {
            due("line " + i, n.line(1, A, B), i);
        }
        due("line 15th", n.line(1, A, B), FULL);
        due("line 15th, wrong", n.line(4, A, B), BAD);
        due("line full: lines", n.told(4), 14);
        due("line full: how often", n.told(2), 1);
        due("line full: bad", n.told(0), wrong.length + 1);
    }

    private static void promise3Drops() {
        JoinedNames n = new JoinedNames();
        due("drops of none", n.drops(0), BAD);
        reads(n, "a=b;b=c;c=d;d=e;");
        due("drops(4)", n.drops(4), BAD);
        due("drops(-1)", n.drops(-1), BAD);
        due("drops(least)", n.drops(LEAST), BAD);
        due("drops(most)", n.drops(MOST), BAD);
        due("drops refused leaves no state", n.told(5), 1);
        due("drops wrong: how often", n.told(0), 5);
        due("drops(1)", n.drops(1), 3);
        dueLines("behind drops(1)", n, "a=b;c=d;d=e;");
        due("drops(2)", n.drops(2), 2);
        dueLines("behind drops(2)", n, "a=b;c=d;");
        due("drops(0)", n.drops(0), 1);
        dueLines("behind drops(0)", n, "c=d;");
        due("drops(1) of one", n.drops(1), BAD);
        due("drops last", n.drops(0), 0);
        due("drops leaves states", n.told(5), 5);
        due("back behind drops", n.back(), 4);
        dueLines("behind back", n, "c=d;");
        JoinedNames full = lines("a=b;a=b;a=b;a=b;a=b;a=b;a=b;a=b;a=b;a=b;a=b;a=b;a=b;c=d;");
        due("drops(13)", full.drops(13), 13);
        due("line behind drops", full.line(0, A, B), 13);
    }

    private static void promise4Moves() {
        JoinedNames n = lines("a=b;b=c;c=d;d=e;");
        due("moves(0, 2)", n.moves(0, 2), 0);
        dueLines("behind moves(0, 2)", n, "b=c;c=d;a=b;d=e;");
        due("moves(3, 1)", n.moves(3, 1), 3);
        dueLines("behind moves(3, 1)", n, "b=c;d=e;c=d;a=b;");
        due("moves(0, 3)", n.moves(0, 3), 0);
        dueLines("behind moves(0, 3)", n, "d=e;c=d;a=b;b=c;");
        due("states", n.told(5), 4);
        due("moves(2, 2)", n.moves(2, 2), 2);
        dueLines("behind moves(2, 2)", n, "d=e;c=d;a=b;b=c;");
        due("states, nothing changed", n.told(5), 5);
        int[][] wrong = {{-1, 0}, {0, -1}, {4, 0}, {0, 4}, {LEAST, 0}, {0, LEAST}, {MOST, 0}, {0, MOST}};
        for (int[] w : wrong) {
            due("moves wrong", n.moves(w[0], w[1]), BAD);
        }
        due("moves wrong: how often", n.told(0), wrong.length);
        n.back();
        dueLines("behind back of no change", n, "d=e;c=d;a=b;b=c;");
        n.back();
        dueLines("behind back", n, "b=c;d=e;c=d;a=b;");
        due("moves of none", new JoinedNames().moves(0, 0), BAD);
    }

    private static void promise5Of() {
        JoinedNames n = lines("a=&b;a=&c;d=a;e=*a;*a=f;*j=i;h=*j;*a=a;");
        String[] writes = {"a", "a", "d", "e", "bc", "", "h", "bc"};
        String[] reads = {"", "", "a", "abc", "af", "ij", "j", "a"};
        int[] sorts = {0, 0, 1, 2, 3, 3, 2, 3};
        int[] xs = {A, A, D, E, A, J, H, A};
        int[] ys = {B, C, A, A, F, 8, J, A};
        for (int i = 0; i < sorts.length; i++) {
            due("of(" + i + ", 0)", n.of(i, 0), sorts[i]);
            due("of(" + i + ", 1)", n.of(i, 1), xs[i]);
            due("of(" + i + ", 2)", n.of(i, 2), ys[i]);
            due("of(" + i + ", 3)", n.of(i, 3), bits(writes[i]));
            due("of(" + i + ", 4)", n.of(i, 4), bits(reads[i]));
        }
        int[][] wrong = {{8, 0}, {-1, 0}, {0, 5}, {0, -1}, {LEAST, 0}, {MOST, 0}, {0, LEAST}, {0, MOST}};
        for (int[] w : wrong) {
            due("of wrong", n.of(w[0], w[1]), BAD);
        }
        due("of wrong: how often", n.told(0), wrong.length);
    }

    private static void promise6Clash() {
        // Lines 0 to 7; b may be written through a.
        JoinedNames n = lines("a=&b;c=&d;c=e;f=c;*a=g;b=h;i=*a;j=g;");
        dueClash(n, 1, 2, 1, "both write c");
        dueClash(n, 2, 3, 1, "one reads c");
        dueClash(n, 4, 5, 1, "both write b, one through a");
        dueClash(n, 4, 6, 1, "b is written and read through a");
        dueClash(n, 5, 6, 1, "b is written, and read through a");
        dueClash(n, 0, 4, 1, "a is written, and read to write through it");
        dueClash(n, 0, 6, 1, "a is written and read");
        dueClash(n, 4, 7, 0, "both only read g");
        dueClash(n, 0, 1, 0, "nothing in common");
        dueClash(n, 3, 7, 0, "nothing in common");
        dueClash(lines("a=&b;c=&a;"), 0, 1, 0, "an address is no reading");
        dueClash(lines("a=&b;c=&b;*a=d;e=*c;"), 2, 3, 1, "met by fine sets");
        // Coarse joins b and c, fine does not: c is not written through d.
        dueClash(lines("a=&b;a=&c;d=&b;*d=e;c=f;"), 3, 4, 0, "coarse alone");
        due("clash alike", n.clash(3, 3), BAD);
        due("clash(8, 0)", n.clash(8, 0), BAD);
        due("clash(0, 8)", n.clash(0, 8), BAD);
        due("clash(-1, 0)", n.clash(-1, 0), BAD);
        due("clash(0, -1)", n.clash(0, -1), BAD);
        due("clash(least, most)", n.clash(LEAST, MOST), BAD);
        due("clash wrong: how often", n.told(0), 6);
    }

    private static void dueClash(JoinedNames n, int i, int j, int want, String why) {
        due("clash(" + i + ", " + j + "): " + why, n.clash(i, j), want);
        due("clash(" + j + ", " + i + "): " + why, n.clash(j, i), want);
    }

    private static void promise7Fine() {
        JoinedNames n = lines("d=c;c=b;b=a;a=&e;a=&f;");
        due("fine against the order", n.fine(D), bits("ef"));
        due("fine goes one way", lines("a=b;a=&c;").fine(B), 0);
        JoinedNames load = lines("a=*b;b=&c;b=&d;c=&e;d=&f;");
        due("fine of a load", load.fine(A), bits("ef"));
        JoinedNames store = lines("*a=b;a=&c;a=&d;b=&e;b=&f;");
        due("fine of a store 1", store.fine(C), bits("ef"));
        due("fine of a store 2", store.fine(D), bits("ef"));
        due("fine of a store, b", store.fine(B), bits("ef"));
        JoinedNames self = lines("a=&a;*a=b;b=&c;d=*a;");
        due("fine of itself", self.fine(A), bits("ac"));
        due("fine over itself", self.fine(D), bits("ac"));
        due("fine of what itself has", self.fine(C), bits("c"));
        due("fine of ten", lines("a=&a;a=&b;a=&c;a=&d;a=&e;a=&f;a=&g;a=&h;a=&i;a=&j;").fine(A), 1023);
        due("fine(-1)", n.fine(-1), BAD);
        due("fine(10)", n.fine(10), BAD);
        due("fine(least)", n.fine(LEAST), BAD);
        due("fine(most)", n.fine(MOST), BAD);
        due("fine wrong: how often", n.told(0), 4);
    }

    private static void promise8Coarse() {
        JoinedNames n = lines("a=&b;c=&d;a=c;");
        due("coarse of a copy", n.coarse(A), bits("bd"));
        due("coarse of a copy's source", n.coarse(C), bits("bd"));
        JoinedNames putOff = lines("a=b;a=&c;");
        due("coarse put off", putOff.coarse(B), 0);
        due("coarse put off, a", putOff.coarse(A), bits("c"));
        putOff.line(0, B, D);
        due("coarse drained", putOff.coarse(A), bits("cd"));
        due("coarse drained, b", putOff.coarse(B), bits("cd"));
        JoinedNames load = lines("a=*b;b=&c;a=&e;");
        due("coarse of a load put off", load.coarse(A), bits("e"));
        load.line(0, C, D);
        due("coarse of a load drained", load.coarse(A), bits("de"));
        JoinedNames store = lines("*a=b;a=&c;c=&e;");
        due("coarse of a store put off", store.coarse(C), bits("e"));
        store.line(0, B, D);
        due("coarse of a store drained", store.coarse(C), bits("de"));
        due("coarse of a store drained, b", store.coarse(B), bits("de"));
        JoinedNames deep = lines("a=&b;b=&c;c=&d;e=&f;f=&g;g=&h;a=e;");
        due("coarse joins all behind, 1", deep.coarse(A), bits("bf"));
        due("coarse joins all behind, 2", deep.coarse(B), bits("cg"));
        due("coarse joins all behind, 3", deep.coarse(G), bits("dh"));
        due("coarse joins nothing ahead", deep.group(A, 0), bits("a"));
        JoinedNames onto = lines("a=&a;a=&b;b=&c;");
        due("coarse onto itself", onto.coarse(C), bits("abc"));
        due("coarse(-1)", n.coarse(-1), BAD);
        due("coarse(10)", n.coarse(10), BAD);
        due("coarse(least)", n.coarse(LEAST), BAD);
        due("coarse(most)", n.coarse(MOST), BAD);
        due("coarse wrong: how often", n.told(0), 4);
    }

    private static void promise9Group() {
        JoinedNames n = lines("a=&j;a=&d;d=&f;j=&c;");
        due("group(9, 0)", n.group(J, 0), bits("dj"));
        due("group(9, 1)", n.group(J, 1), D);
        due("group(9, 2)", n.group(J, 2), C);
        due("group(3, 2)", n.group(D, 2), C);
        due("group(5, 0)", n.group(F, 0), bits("cf"));
        due("group(5, 1)", n.group(F, 1), C);
        due("group(5, 2)", n.group(F, 2), NONE);
        due("group(0, 2)", n.group(A, 2), D);
        due("group(1, 0)", n.group(B, 0), bits("b"));
        JoinedNames self = lines("b=&b;");
        due("group to itself", self.group(B, 2), B);
        int[][] wrong = {{-1, 0}, {10, 0}, {0, -1}, {0, 3}, {LEAST, 0}, {MOST, 0}, {0, LEAST}, {0, MOST}};
        for (int[] w : wrong) {
            due("group wrong", n.group(w[0], w[1]), BAD);
        }
        due("group wrong: how often", n.told(0), wrong.length);
    }

    private static void promise10Count() {
        JoinedNames n = lines("a=&b;a=&c;d=&d;e=a;");
        int[] want = {9, 3, 1, 5, 5};
        dueCounts(n, want);
        dueCounts(lines("a=&b;b=&c;a=&a;d=&a;"), new int[] {8, 2, 1, 4, 12});
        due("count(-1)", n.count(-1), BAD);
        due("count(5)", n.count(5), BAD);
        due("count(least)", n.count(LEAST), BAD);
        due("count(most)", n.count(MOST), BAD);
        due("count wrong: how often", n.told(0), 4);
    }

    private static void dueCounts(JoinedNames n, int[] want) {
        for (int what = 0; what < want.length; what++) {
            due("count(" + what + ")", n.count(what), want[what]);
        }
    }

    private static void promise11Alias() {
        JoinedNames n = lines("a=&c;b=&c;d=&e;f=&g;h=&e;h=&g;");
        due("alias(a, b, 0)", n.alias(A, B, 0), 1);
        due("alias(a, b, 1)", n.alias(A, B, 1), 1);
        due("alias(d, f, 0)", n.alias(D, F, 0), 0);
        due("alias(d, f, 1)", n.alias(D, F, 1), 1);
        due("alias(a, d, 0)", n.alias(A, D, 0), 0);
        due("alias(a, d, 1)", n.alias(A, D, 1), 0);
        due("alias(a, a, 0)", n.alias(A, A, 0), 1);
        due("alias(a, a, 1)", n.alias(A, A, 1), 1);
        due("alias(c, c, 0)", n.alias(C, C, 0), 0);
        due("alias(c, c, 1)", n.alias(C, C, 1), 0);
        due("alias(c, e, 1)", n.alias(C, E, 1), 0);
        int[][] wrong = {{-1, 0, 0}, {10, 0, 0}, {0, -1, 0}, {0, 10, 0}, {0, 0, -1}, {0, 0, 2},
            {LEAST, 0, 0}, {0, MOST, 0}, {0, 0, LEAST}, {0, 0, MOST}};
        for (int[] w : wrong) {
            due("alias wrong", n.alias(w[0], w[1], w[2]), BAD);
        }
        due("alias wrong: how often", n.told(0), wrong.length);
    }

    private static void promise12Without() {
        JoinedNames n = lines("a=&b;a=&c;d=a;e=&b;e=&b;");
        due("without(0, a, 0)", n.without(0, A, 0), 1);
        due("without(1, d, 0)", n.without(1, D, 0), 1);
        due("without(2, d, 0)", n.without(2, D, 0), 2);
        due("without(2, d, 1)", n.without(2, D, 1), 2);
        due("without(2, a, 0)", n.without(2, A, 0), 0);
        due("without(3, e, 0), told twice", n.without(3, E, 0), 0);
        due("without(4, e, 1), told twice", n.without(4, E, 1), 0);
        due("without(1, e, 0), fine", n.without(1, E, 0), 0);
        due("without(1, e, 1), coarse", n.without(1, E, 1), 1);
        due("without(1, j, 1)", n.without(1, J, 1), 0);
        dueLines("behind without", n, "a=&b;a=&c;d=a;e=&b;e=&b;");
        due("without leaves no state", n.told(5), 1);
        int[][] wrong = {{-1, 0, 0}, {5, 0, 0}, {0, -1, 0}, {0, 10, 0}, {0, 0, -1}, {0, 0, 2},
            {LEAST, 0, 0}, {MOST, 0, 0}, {0, MOST, 0}, {0, LEAST, 0}, {0, 0, LEAST}, {0, 0, MOST}};
        for (int[] w : wrong) {
            due("without wrong", n.without(w[0], w[1], w[2]), BAD);
        }
        due("without wrong: how often", n.told(0), wrong.length);
        due("without of none", new JoinedNames().without(0, 0, 0), BAD);
    }

    private static void promise13Points() {
        JoinedNames n = lines("a=b;b=&c;");
        due("points(0, b)", n.points(0, B), NONE);
        due("points(1, a)", n.points(1, A), NONE);
        due("points(1, b)", n.points(1, B), C);
        due("points(2, a)", n.points(2, A), C);
        due("points(9, a)", n.points(9, A), C);
        due("points nowhere again", lines("a=&b;a=c;").points(1, A), NONE);
        due("points, last counts", lines("a=&b;a=&c;").points(1, A), C);
        due("points of a load", lines("a=&b;b=&c;d=*a;").points(1, D), C);
        due("points of a load, nowhere", lines("d=&e;a=&b;d=*a;").points(1, D), NONE);
        due("points of a load, missed", lines("d=&e;d=*a;").points(1, D), E);
        due("points of a store", lines("a=&b;c=&d;*a=c;").points(1, B), D);
        due("points of a store, nowhere", lines("b=&d;a=&b;*a=c;").points(1, B), NONE);
        due("points of a store, missed", lines("c=&d;*a=c;").points(1, A), NONE);
        due("points of a store over itself", lines("a=&a;b=&c;*a=b;").points(1, A), C);
        due("points of a load over itself", lines("a=&a;a=*a;").points(1, A), A);
        int[][] wrong = {{-1, 0}, {10, 0}, {0, -1}, {0, 10}, {LEAST, 0}, {MOST, 0}, {0, LEAST}, {0, MOST}};
        for (int[] w : wrong) {
            due("points wrong", n.points(w[0], w[1]), BAD);
        }
        due("points wrong: how often", n.told(0), wrong.length);
    }

    private static void promise14Seen() {
        JoinedNames n = lines("a=b;b=&c;a=&d;a=&e;");
        due("seen(0, a)", n.seen(0, A), 0);
        due("seen(1, a)", n.seen(1, A), bits("de"));
        due("seen(2, a)", n.seen(2, A), bits("cde"));
        due("seen(9, b)", n.seen(9, B), bits("c"));
        due("seen, then nowhere", lines("a=&b;a=c;").seen(1, A), bits("b"));
        due("seen through a store", lines("a=&b;c=&d;*a=c;b=&e;").seen(1, B), bits("de"));
        due("seen through a load", lines("a=&b;b=&c;d=*a;d=e;").seen(1, D), bits("c"));
        int[][] wrong = {{-1, 0}, {10, 0}, {0, -1}, {0, 10}, {LEAST, 0}, {MOST, 0}, {0, LEAST}, {0, MOST}};
        for (int[] w : wrong) {
            due("seen wrong", n.seen(w[0], w[1]), BAD);
        }
        due("seen wrong: how often", n.told(0), wrong.length);
    }

    private static void promise15Misses() {
        JoinedNames n = lines("a=*b;*b=c;d=e;b=&c;");
        due("misses(0)", n.misses(0), 0);
        due("misses(1)", n.misses(1), 2);
        due("misses(2)", n.misses(2), 2);
        due("misses of one more", lines("*a=b;").misses(9), 9);
        due("misses of a load", lines("a=*b;").misses(9), 9);
        due("no miss: what y points to points nowhere", lines("b=&c;a=*b;").misses(9), 0);
        due("no miss: y points nowhere", lines("a=&c;*a=b;").misses(9), 0);
        due("misses(-1)", n.misses(-1), BAD);
        due("misses(10)", n.misses(10), BAD);
        due("misses(least)", n.misses(LEAST), BAD);
        due("misses(most)", n.misses(MOST), BAD);
        due("misses wrong: how often", n.told(0), 4);
    }

    private static void promise16Type() {
        JoinedNames n = new JoinedNames();
        due("type(-1)", n.type(-1), BAD);
        due("type(128)", n.type(128), BAD);
        due("type(least)", n.type(LEAST), BAD);
        due("type(most)", n.type(MOST), BAD);
        due("type(0)", n.type(0), 1);
        due("type(127)", n.type(127), 2);
        for (int k = 3; k <= 120; k++) {
            due("type " + k, n.type(' '), k);
        }
        due("type 121", n.type(' '), FULL);
        due("type 121, wrong", n.type(128), BAD);
        due("type: bad", n.told(0), 5);
        due("type: full", n.told(2), 1);
        due("type: bytes", n.told(3), 120);
        due("type: no state", n.told(5), 0);
        due("type: fault at its first", n.reads(), -10);
    }

    private static void promise17Clear() {
        JoinedNames n = new JoinedNames();
        due("clear of none", n.clear(), 0);
        type(n, "a=b;");
        n.reads();
        due("clear", n.clear(), 4);
        due("clear: bytes", n.told(3), 0);
        due("clear: lines stay", n.told(4), 1);
        due("clear: no state", n.told(5), 1);
        type(n, "b=&c;d");
        due("clear of another", n.clear(), 6);
        due("clear twice", n.clear(), 0);
        due("reads behind clear", n.reads(), 0);
        for (int k = 0; k < 120; k++) {
            n.type('a');
        }
        due("clear of 120", n.clear(), 120);
        due("type behind clear", n.type('a'), 1);
    }

    private static void promise18Reads() {
        JoinedNames n = new JoinedNames();
        due("reads none", n.reads(), 0);
        due("reads none leaves a state", n.told(5), 1);
        due("reads four", reads(n, "a=&b;c=d;e=*f;*g=h;"), 4);
        dueLines("of four", n, "a=&b;c=d;e=*f;*g=h;");
        due("text stays", n.told(3), 19);
        due("reads again", n.reads(), 4);
        due("reads again leaves a state", n.told(5), 3);
        due("reads fewer", reads(n, "  j = & j ;  "), 1);
        dueLines("of fewer", n, "j=&j;");
        due("reads blanks", reads(n, "    "), 0);
        due("reads blanks: lines", n.told(4), 0);
        String thirteen = "a=b;a=b;a=b;a=b;a=b;a=b;a=b;a=b;a=b;a=b;a=b;a=b;a=b;";
        due("reads 14", reads(n, thirteen + "*c=d; "), 14);
        dueLines("of 14", n, thirteen + "*c=d;");
        String blanks = " ".repeat(115);
        due("reads at the end of 120", reads(n, blanks + "a=*b;"), 1);
        due("reads ends too early at 120", reads(n, blanks + "a=* b"), -130);
    }

    private static void promise18Faults() {
        String fourteen = "a=b;a=b;a=b;a=b;a=b;a=b;a=b;a=b;a=b;a=b;a=b;a=b;a=b;a=b;";
        dueFault("a", 1);
        dueFault("*", 1);
        dueFault("*a", 2);
        dueFault("*a=", 3);
        dueFault("*a=b", 4);
        dueFault("a=", 2);
        dueFault("a=&", 3);
        dueFault("a=*", 3);
        dueFault("a=&b", 4);
        dueFault("a=b;c  ", 7);
        dueFault("a=b  ", 5);
        dueFault("k=a;", 0);
        dueFault("`=a;", 0);
        dueFault("A=a;", 0);
        dueFault("&a=b;", 0);
        dueFault(";", 0);
        dueFault("  ;", 2);
        dueFault("=", 0);
        dueFault("**a=b;", 1);
        dueFault("*&a=b;", 1);
        dueFault("*k=b;", 1);
        dueFault("aa=b;", 1);
        dueFault("a;", 1);
        dueFault("a==b;", 2);
        dueFault("a=;", 2);
        dueFault("a=k;", 2);
        dueFault("a=&k;", 3);
        dueFault("a=&*b;", 3);
        dueFault("a=**b;", 3);
        dueFault("*a=&b;", 3);
        dueFault("*a=*b;", 3);
        dueFault("a=bc;", 3);
        dueFault("a=b=c;", 3);
        dueFault("a=b;;", 4);
        dueFault("a=b;\t", 4);
        dueFault("a=b;" + (char) 0, 4);
        dueFault("a =\n& b;", 3);
        dueFault(fourteen + "a", 56);
        dueFault(fourteen + "  *", 58);
        dueFault(fourteen + ";", 56);
        dueFault(fourteen + "a=b;", 56);
    }

    /** A fault is answered, and all stays as it was, the counts too. */
    private static void dueFault(String text, int place) {
        JoinedNames n = lines("c=&d;");
        due("reads() of '" + text + "'", reads(n, text), -10 - place);
        dueLines("behind the fault of '" + text + "'", n, "c=&d;");
        int[] told = {0, 0, 0, text.length(), 1, 1};
        for (int what = 0; what < 6; what++) {
            due("told(" + what + ") behind the fault of '" + text + "'", n.told(what), told[what]);
        }
    }

    private static void promise19Shown() {
        JoinedNames n = new JoinedNames();
        due("shown(-1) of none", n.shown(NONE), 0);
        due("shown(0) of none", n.shown(0), -5);
        due("shown(-2)", n.shown(-2), BAD);
        due("shown(least)", n.shown(LEAST), BAD);
        reads(n, " a = & b ; c = d ; e = * f ; * g = h ; ");
        String want = "a=&b;c=d;e=*f;*g=h;";
        due("shown(-1)", n.shown(NONE), want.length());
        for (int k = 0; k < want.length(); k++) {
            due("shown(" + k + ")", n.shown(k), want.charAt(k));
        }
        due("shown behind the last", n.shown(want.length()), -5);
        due("shown(most)", n.shown(MOST), -5);
        due("shown: bad", n.told(0), 2);
        due("shown: states", n.told(5), 1);
        due("the text is not what is shown", n.told(3), 39);
        n.moves(0, 3);
        dueLines("in order", n, "c=d;e=*f;*g=h;a=&b;");
    }

    private static void promise20Back() {
        JoinedNames n = new JoinedNames();
        due("back of none", n.back(), NO);
        due("back of none: how often", n.told(1), 1);
        n.line(0, A, B);
        n.moves(0, 0);
        n.drops(0);
        reads(n, "c=d;e=f;");
        due("states", n.told(5), 4);
        due("back of reads", n.back(), 3);
        dueLines("back of reads", n, "");
        due("the text stays by back", n.told(3), 8);
        due("back of drops", n.back(), 2);
        dueLines("back of drops", n, "a=&b;");
        due("back of moves", n.back(), 1);
        dueLines("back of moves", n, "a=&b;");
        due("back of line", n.back(), 0);
        dueLines("back of line", n, "");
        due("back once more", n.back(), NO);
        for (int i = 0; i < 8; i++) {
            n.line(1, A, i);
        }
        due("five states at most", n.told(5), 5);
        for (int left = 4; left >= 0; left--) {
            due("back of eight", n.back(), left);
            due("back of eight: lines", n.told(4), 3 + left);
        }
        due("older ones are lost", n.back(), NO);
        dueLines("back of eight", n, "a=a;a=b;a=c;");
        due("back: how often refused", n.told(1), 3);
        n.line(0, J, J);
        due("a state behind back", n.told(5), 1);
        due("back is no state", n.back(), 0);
        dueLines("behind it", n, "a=a;a=b;a=c;");
    }

    private static void promise21Told() {
        JoinedNames n = new JoinedNames();
        due("told(-1)", n.told(-1), BAD);
        due("told(6)", n.told(6), BAD);
        due("told(least)", n.told(LEAST), BAD);
        due("told(most)", n.told(MOST), BAD);
        due("told(0)", n.told(0), 4);
        n.back();
        n.back();
        due("told(1)", n.told(1), 2);
        for (int i = 0; i < 17; i++) {
            n.line(0, A, B);
        }
        due("told(2)", n.told(2), 3);
        type(n, "a=b;a");
        due("told(3)", n.told(3), 5);
        due("told(4)", n.told(4), 14);
        due("told(5)", n.told(5), 5);
        n.back();
        due("told(0) is not taken back", n.told(0), 4);
        due("told(1) is not taken back", n.told(1), 2);
        due("told(2) is not taken back", n.told(2), 3);
        due("told(4) behind back", n.told(4), 13);
    }

    private static void promise22Digest() {
        due("digest of a new object", new JoinedNames().digest(), mixed(partsOf(new JoinedNames())));
        JoinedNames n = lines("a=&b;a=&c;b=&d;e=*a;*e=f;f=&g;*j=a;");
        due("digest", n.digest(), mixed(partsOf(n)));
        n.fine(10);
        n.back();
        n.back();
        reads(n, "a=b;b=*c;*b=a;c=&c;d=&e;d=&c;");
        for (int i = 6; i < 15; i++) {
            n.line(0, i % 10, (3 * i) % 10);
        }
        long fourteen = mixed(partsOf(n));
        due("digest of 14", n.digest(), fourteen);
        due("digest again", n.digest(), fourteen);
        n.count(9);
        due("digest counts refusals", n.digest(), mixed(partsOf(n)));
    }
}
