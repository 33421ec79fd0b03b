import java.util.ArrayList;
import java.util.Collections;
import java.util.List;
import java.util.function.ToIntFunction;

/** The document's terms, which all promises use: a test for each sentence that names a boundary case. */
public final class TermsEdgesTest extends Edges {
    public static void main(String[] args) {
        namesAndLines();
        fineAndCoarse();
        writesAndRuns();
        texts();
        statesAndRefusals();
        Check.end("TermsEdgesTest");
    }

    // ---- names and lines

    private static void namesAndLines() {
        whatItIs("2, 7 to 9, 11 to 14, 18, 19", "NAMES a to j (0 ..", TermsEdgesTest::tenNames);
        whatItIs("1 to 22", "An object is used for at most 512 calls after it has been made", TermsEdgesTest::calls512);
        term("2 to 6, 12", "LINES 0 .. 13, as they come", TermsEdgesTest::fourteenLines);
        term("2, 5, 18, 19", "SORTS (x, y NAMES): 0 x = & y; 1 x = y; 2 x = * y; 3 * x = y.", TermsEdgesTest::fourSorts);
    }

    private static void tenNames() {
        for (int x = 0; x < 10; x++) {
            JoinedNames n = new JoinedNames();
            n.line(0, x, 9 - x);
            String want = (char) ('a' + x) + "=&" + (char) ('j' - x) + ";";
            dueLines("of name " + x, n, want);
            due("fine of " + x, lines(want).fine(x), 1 << 9 - x);
        }
        JoinedNames n = new JoinedNames();
        due("no name below a", n.line(0, -1, A), BAD);
        due("no name beyond j", n.line(0, 10, A), BAD);
        due("no letter below a", reads(n, "`=a;"), -10);
        due("no letter beyond j", reads(n, "k=a;"), -10);
        due("no large letter", reads(n, "A=a;"), -10);
        due("no letter below a on the right", reads(n, "a=`;"), -12);
        due("no letter beyond j on the right", reads(n, "a=k;"), -12);
        due("no letter below a behind &", reads(n, "a=&`;"), -13);
        due("no letter beyond j behind &", reads(n, "a=&k;"), -13);
        due("no letter below a behind *", reads(n, "a=*`;"), -13);
        due("no letter beyond j behind *", reads(n, "a=*k;"), -13);
        due("no letter below a behind the first *", reads(n, "*`=a;"), -11);
        due("no letter beyond j behind the first *", reads(n, "*k=a;"), -11);
        due("no letter below a to write", reads(n, "*a=`;"), -13);
        due("no letter beyond j to write", reads(n, "*a=k;"), -13);
    }

    private static void calls512() {
        JoinedNames n = new JoinedNames();
        for (int call = 1; call <= 500; call += 5) {
            n.line(call % 4, call % 10, call % 7);
            n.moves(0, 1);
            n.digest();
            n.drops(call % 50 == 1 ? 0 : 14);
            n.type('a');
        }
        due("told(4), call 501", n.told(4), 14);
        due("told(5), call 502", n.told(5), 5);
        due("told(3), call 503", n.told(3), 100);
        due("drops(13), call 504", n.drops(13), 13);
        due("line, call 505", n.line(0, J, A), 13);
        due("back, call 506", n.back(), 4);
        due("back, call 507", n.back(), 3);
        due("line, call 508", n.line(0, J, A), FULL);
        due("reads, call 509", n.reads(), -11);
        due("clear, call 510", n.clear(), 100);
        due("reads, call 511", n.reads(), 0);
        due("told(4), call 512", n.told(4), 0);
    }

    private static void fourteenLines() {
        JoinedNames n = new JoinedNames();
        for (int i = 0; i < 14; i++) {
            due("line " + i, n.line(1, i % 10, i / 10), i);
        }
        for (int i = 0; i < 14; i++) {
            due("x of line " + i, n.of(i, 1), i % 10);
            due("y of line " + i, n.of(i, 2), i / 10);
        }
        due("no line 14", n.of(14, 0), BAD);
        due("no line -1", n.of(-1, 0), BAD);
        due("a 15th does not come", n.line(1, A, A), FULL);
    }

    private static void fourSorts() {
        String[] forms = {"b=&c;", "b=c;", "b=*c;", "*b=c;"};
        for (int sort = 0; sort < 4; sort++) {
            JoinedNames n = new JoinedNames();
            n.line(sort, B, C);
            dueLines("of sort " + sort, n, forms[sort]);
            due("sort of " + forms[sort], lines(forms[sort]).of(0, 0), sort);
        }
        due("no sort -1", new JoinedNames().line(-1, B, C), BAD);
        due("no sort 4", new JoinedNames().line(4, B, C), BAD);
        due("none for &b = c", reads(new JoinedNames(), "&b=c;"), -10);
        due("none for *b = &c", reads(new JoinedNames(), "*b=&c;"), -13);
        due("none for *b = *c", reads(new JoinedNames(), "*b=*c;"), -13);
        due("none for b = **c", reads(new JoinedNames(), "b=**c;"), -13);
    }

    // ---- what may be

    private static void fineAndCoarse() {
        term("7", "the least sets, all together", TermsEdgesTest::fineLeast);
        term("7", "x = & y: that of x has y", TermsEdgesTest::fineAddress);
        term("7", "x = y: x has all of y", TermsEdgesTest::fineCopy);
        term("7", "x = * y: x has all of each that y has", TermsEdgesTest::fineLoad);
        term("7", "* x = y: each that x has has all of y.", TermsEdgesTest::fineStore);
        term("9, 10", "NAMES are in GROUPS (each in one)", TermsEdgesTest::groupsEachInOne);
        term("9, 10", "a GROUP points to one GROUP at most", TermsEdgesTest::groupsOneAtMost);
        term("8 to 10", "the finest grouping, with the fewest pointings", TermsEdgesTest::groupsFinest);
        term("8, 9", "x = & y: the GROUP of x points to that of y", TermsEdgesTest::coarseAddress);
        term("8, 9", "x = y: if the GROUP of y points to one, that of x points to it, too", TermsEdgesTest::coarseCopy);
        term("8, 9", "x = * y: if that of y points to one that points to one, that of x points to the latter",
            TermsEdgesTest::coarseLoad);
        term("8, 9", "* x = y: if that of x points to one, and that of y to one, the former of these points to the latter.",
            TermsEdgesTest::coarseStore);
        whatItIs("8 to 10", "how joins are put off until something is pointed to, when they are drained",
            TermsEdgesTest::coarsePutOff);
        term("8 to 10", "(So GROUPS are joined that one GROUP would else both point to.)", TermsEdgesTest::coarseJoins);
        term("8", "COARSE of a NAME: all NAMES of the GROUP its GROUP points to (none, if it points to none).",
            TermsEdgesTest::coarseOfGroup);
    }

    private static void dueFine(String text, String x, String want) {
        for (String order : ordersOf(text)) {
            due("fine of " + x + " in " + order, lines(order).fine(x.charAt(0) - 'a'), bits(want));
        }
    }

    private static void dueCoarse(String text, String x, String want) {
        for (String order : ordersOf(text)) {
            due("coarse of " + x + " in " + order, lines(order).coarse(x.charAt(0) - 'a'), bits(want));
        }
    }

    private static void dueGroup(String text, String x, String want) {
        for (String order : ordersOf(text)) {
            due("group of " + x + " in " + order, lines(order).group(x.charAt(0) - 'a', 0), bits(want));
        }
    }

    /** What may be does not hang on the order: the lines from each on, there and back. */
    private static List<String> ordersOf(String text) {
        List<String> parts = new ArrayList<>(List.of(text.split("(?<=;)")));
        List<String> orders = new ArrayList<>();
        for (int way = 0; way < 2; way++) {
            for (int k = 0; k < parts.size(); k++) {
                orders.add(String.join("", parts));
                Collections.rotate(parts, 1);
            }
            Collections.reverse(parts);
        }
        return orders;
    }

    private static void fineLeast() {
        dueFine("a=b;b=a;", "a", "");
        dueFine("a=*a;*a=a;", "a", "");
        dueFine("a=&b;c=*a;b=c;", "c", "");
        dueFine("a=&b;b=a;", "b", "b");
        dueFine("j=i;i=h;h=g;g=f;f=e;e=d;d=c;c=b;b=a;a=&j;", "j", "j");
        dueFine("a=*b;b=*c;c=*d;d=*e;e=&e;", "a", "e");
        dueFine("a=&b;b=&c;c=&d;d=&e;e=&f;f=&g;g=&h;h=&i;i=&j;a=*a;", "a", "bcdefghij");
        // Found by a search for 14 lines that are long in coming to rest: 35 times through them.
        for (String x : NAMES.split("")) {
            dueFine("*j=g;g=j;j=f;f=b;b=d;d=*i;i=h;*a=h;h=&e;i=&j;g=&h;c=&i;e=&a;a=&c;", x, "acehij");
        }
    }

    private static void fineAddress() {
        dueFine("a=&a;", "a", "a");
        dueFine("a=&j;", "j", "");
        dueFine(allOf('a'), "a", NAMES);
        dueFine(allOf('a'), "b", "");
    }

    private static void fineCopy() {
        dueFine("a=b;", "a", "");
        dueFine("a=a;", "a", "");
        dueFine("a=b;a=&c;", "b", "");
        dueFine("b=a;" + allOf('a'), "b", NAMES);
    }

    private static void fineLoad() {
        dueFine("a=*b;", "a", "");
        dueFine("a=*b;b=&c;", "a", "");
        dueFine("a=*b;b=&b;", "a", "b");
        dueFine("a=*b;b=&c;b=&d;d=&j;", "a", "j");
        dueFine("a=*b;b=&c;b=&d;c=&i;d=&j;", "a", "ij");
        dueFine("a=*b;c=&d;", "a", "");
        dueFine("b=*a;" + allOf('a'), "b", NAMES);
    }

    private static void fineStore() {
        dueFine("*a=b;b=&c;", "a", "");
        dueFine("*a=b;a=&c;", "c", "");
        dueFine("*a=b;a=&c;b=&j;", "c", "j");
        dueFine("*a=b;a=&b;b=&j;", "b", "j");
        dueFine("*a=a;a=&a;", "a", "a");
        dueFine("*a=b;a=&c;a=&d;b=&i;b=&j;", "d", "ij");
        dueFine("*a=a;" + allOf('a'), "j", NAMES);
        dueFine("*b=c;b=&a;c=&j;", "a", "j");
        dueFine("*b=c;b=&j;c=&a;", "j", "a");
        dueFine("*b=c;b=&a;c=&a;", "a", "a");
        dueFine("d=c;*a=b;a=&c;b=&j;", "d", "j");
        dueFine("e=d;d=*c;*b=a;c=&b;b=&b;a=&a;", "e", "ab");
    }

    private static void groupsEachInOne() {
        for (String text : new String[] {"", "a=&b;a=&j;c=&d;c=&e;", allOf('c'), "a=&b;b=&a;a=b;"}) {
            JoinedNames n = lines(text);
            int sizes = 0;
            int least = 0;
            for (int x = 0; x < 10; x++) {
                due("a name is in its group", n.group(x, 0) >> x & 1, 1);
                for (int y = 0; y < 10; y++) {
                    boolean together = (n.group(x, 0) >> y & 1) == 1;
                    due("one group, or nothing in common", together ? n.group(y, 0) : 0, together ? n.group(x, 0) : 0);
                }
                sizes += n.group(x, 1) == x ? Integer.bitCount(n.group(x, 0)) : 0;
                least += n.group(x, 1) == x ? 1 : 0;
            }
            due("all ten names", sizes, 10);
            due("count(0)", n.count(0), least);
        }
    }

    private static void groupsOneAtMost() {
        due("none", lines("a=b;").group(A, 2), NONE);
        due("one", lines("a=&b;").group(A, 2), B);
        due("told twice, one", lines("a=&b;a=&b;").group(A, 2), B);
        dueGroup("a=&b;a=&b;", "b", "b");
        dueGroup("a=&b;a=&c;", "b", "bc");
        dueGroup("a=&b;a=&c;b=&d;c=&e;", "d", "de");
        dueGroup("a=&a;a=&j;", "a", "aj");
    }

    private static void groupsFinest() {
        JoinedNames apart = lines("a=b;c=*d;*e=f;g=g;h=*h;*i=i;");
        due("nothing is joined", apart.count(0), 10);
        due("nothing points", apart.count(1), 0);
        JoinedNames ring = lines("a=&b;b=&c;c=&a;");
        due("a ring joins nothing", ring.count(0), 10);
        due("a ring has three pointings", ring.count(1), 3);
        dueGroup("a=b;b=&c;", "a", "a");
        dueGroup("a=&c;b=&c;", "a", "a");
        dueGroup("a=&b;b=&c;d=*a;", "d", "d");
    }

    private static void coarseAddress() {
        dueCoarse("j=&a;", "j", "a");
        dueCoarse("a=&a;", "a", "a");
        dueCoarse("a=&b;a=&c;b=&j;", "c", "j");
        dueCoarse("a=&b;a=&c;d=&b;", "d", "bc");
        dueGroup("a=&b;", "a", "a");
    }

    private static void coarseCopy() {
        dueCoarse("a=b;", "a", "");
        dueCoarse("a=b;a=&c;", "b", "");
        dueCoarse("a=b;b=&c;", "a", "c");
        dueCoarse("a=b;a=&c;b=&d;", "a", "cd");
        dueCoarse("a=b;a=&c;b=&d;", "b", "cd");
        dueCoarse("a=a;", "a", "");
        dueCoarse("a=a;a=&a;", "a", "a");
        // b points to nothing itself, but it is joined with c, which does.
        dueCoarse("a=b;d=&b;d=&c;c=&e;", "a", "e");
    }

    private static void coarseLoad() {
        dueCoarse("a=*b;", "a", "");
        dueCoarse("a=*b;b=&c;", "a", "");
        dueCoarse("a=*b;a=&d;", "b", "");
        dueCoarse("a=*b;a=&d;b=&c;", "c", "");
        dueCoarse("a=*b;b=&c;c=&d;", "a", "d");
        dueCoarse("a=*b;b=&c;c=&d;a=&e;", "c", "de");
        dueCoarse("a=*b;b=&b;", "a", "b");
        dueCoarse("a=*a;a=&b;b=&c;", "a", "bc");
    }

    private static void coarseStore() {
        dueCoarse("*a=b;", "a", "");
        dueCoarse("*a=b;a=&c;", "c", "");
        dueCoarse("*a=b;a=&c;", "b", "");
        dueCoarse("*a=b;b=&c;", "a", "");
        dueCoarse("*a=b;a=&c;c=&d;", "b", "");
        dueCoarse("*a=b;a=&c;b=&d;", "c", "d");
        dueCoarse("*a=b;a=&c;b=&d;c=&e;", "b", "de");
        dueCoarse("*a=a;a=&b;", "b", "b");
    }

    /** Chains of lines of which none asks for anything until the last name points: then all do. */
    private static void coarsePutOff() {
        String copies = "a=b;b=c;c=d;d=e;e=f;f=g;g=h;h=i;i=j;";
        dueGroup(copies + "a=&a;", "a", "a");
        dueCoarse(copies + "a=&a;", "b", "");
        dueGroup(copies + "a=&a;j=&j;", "a", "aj");
        dueCoarse(copies + "j=&j;", "a", "j");
        for (String x : NAMES.split("")) {
            dueCoarse(copies + "a=&a;j=&j;", x, "aj");
            dueCoarse(copies + "a=&a;c=&c;g=&g;j=&j;", x, "acgj");
        }
        String loads = "a=*b;b=*c;c=*d;d=*e;e=*f;f=*g;g=*h;h=*i;i=*j;";
        dueCoarse(loads + "a=&a;j=&i;", "a", "a");
        dueCoarse(loads + "a=&a;j=&j;", "b", "aj");
        dueGroup(loads + "a=&a;j=&j;", "a", "aj");
        String stores = "*i=a;*h=i;*g=h;*f=g;";
        dueCoarse(stores + "h=&c;g=&d;f=&e;b=&j;", "b", "j");
        dueCoarse(stores + "h=&c;g=&d;f=&e;b=&j;", "c", "");
        dueCoarse(stores + "h=&c;g=&d;f=&e;b=&j;i=&b;", "b", "j");
        dueCoarse(stores + "h=&c;g=&d;f=&e;b=&j;i=&b;", "c", "b");
        dueCoarse(stores + "h=&c;g=&d;f=&e;b=&j;i=&b;a=&a;", "b", "aj");
        dueGroup(stores + "h=&c;g=&d;f=&e;b=&j;i=&b;a=&a;", "j", "aj");
        dueCoarse(stores + "h=&c;g=&d;f=&e;b=&j;i=&b;a=&a;", "e", "d");
    }

    private static void coarseJoins() {
        dueGroup("a=&b;a=&j;", "b", "bj");
        dueGroup("a=&b;b=&c;c=&d;d=&e;a=&f;f=&g;g=&h;h=&i;", "e", "ei");
        dueGroup("a=&b;b=&c;c=&d;d=&e;a=&f;f=&g;g=&h;h=&i;", "a", "a");
        dueGroup("a=&b;b=&c;c=&d;d=&e;a=&f;f=&g;", "e", "e");
        dueGroup("a=&b;a=&c;c=&d;", "b", "bc");
        dueGroup("a=&c;a=&b;b=&d;", "d", "d");
        dueCoarse("a=&b;a=&c;c=&d;", "b", "d");
        dueCoarse("a=&b;b=&c;c=&d;e=&f;f=&g;a=e;", "g", "d");
        dueGroup("a=&b;b=&c;c=&d;d=&e;e=&f;f=&g;g=&h;h=&i;i=&j;a=&c;", "j", "bcdefghij");
        dueGroup(allOf('j'), "a", NAMES);
    }

    private static void coarseOfGroup() {
        dueCoarse("", "a", "");
        dueCoarse("a=&j;", "j", "");
        dueCoarse("a=&j;a=&i;", "a", "ij");
        dueCoarse(allOf('j'), "a", NAMES);
    }

    // ---- writes, reads and runs

    private static void writesAndRuns() {
        term("5", "all that FINE of x has of SORT 3", TermsEdgesTest::writesThrough);
        term("5", "none of SORT 0.", TermsEdgesTest::readsNone);
        term("6", "LINES i and j CLASH, if one WRITES what the other one WRITES or READS.", TermsEdgesTest::clashes);
        term("13, 14", "at first no NAME points anywhere", TermsEdgesTest::runFirst);
        term("13 to 15", "in each ROUND LINES in order", TermsEdgesTest::runInOrder);
        term("13", "x = y: x points to what y does (nowhere, if y does)", TermsEdgesTest::runCopy);
        term("13, 15", "x = * y: if y points to a NAME: x points to what that does", TermsEdgesTest::runLoad);
        term("13, 15", "* x = y: if x points to a NAME: that points to what y does", TermsEdgesTest::runStore);
        term("13 to 15", "else (y, x pointing nowhere) the LINE is a MISS: nothing happens.", TermsEdgesTest::runMiss);
        term("14", "SEEN: all that a NAME pointed to at the end of any LINE of the RUN.", TermsEdgesTest::runSeen);
    }

    private static void writesThrough() {
        due("FINE has none", lines("*a=b;").of(0, 3), 0);
        due("FINE has ten", lines("*a=b;" + allOf('a')).of(0, 3), 1023);
        due("FINE, not COARSE", lines("*a=b;a=&c;d=&c;d=&e;").of(0, 3), bits("c"));
    }

    private static void readsNone() {
        due("of sort 0", lines("a=&b;").of(0, 4), 0);
        due("of sort 0, though both have some", lines("a=&b;b=&c;a=&a;").of(0, 4), 0);
    }

    private static void clashes() {
        due("WRITES and WRITES", lines("a=b;a=c;").clash(0, 1), 1);
        due("WRITES and READS", lines("a=b;c=a;").clash(0, 1), 1);
        due("READS and WRITES", lines("c=a;a=b;").clash(0, 1), 1);
        due("READS and READS", lines("a=c;b=c;").clash(0, 1), 0);
        due("none with none", lines("*a=b;c=&d;").clash(0, 1), 0);
    }

    private static void runFirst() {
        JoinedNames n = full();
        for (int x = 0; x < 10; x++) {
            due("points(0, " + x + ")", n.points(0, x), NONE);
            due("seen(0, " + x + ")", n.seen(0, x), 0);
        }
        due("misses(0)", n.misses(0), 0);
        n.points(9, A);
        due("points(0) behind a longer run", n.points(0, A), NONE);
    }

    private static void runInOrder() {
        due("ahead of what it needs", lines("a=b;b=&c;").points(1, A), NONE);
        due("behind what it needs", lines("b=&c;a=b;").points(1, A), C);
        due("ahead, one round later", lines("a=b;b=&c;").points(2, A), C);
        JoinedNames n = lines("a=&b;a=&c;");
        n.moves(1, 0);
        due("as they come by moves", n.points(1, A), B);
    }

    private static void runCopy() {
        due("nowhere", lines("a=&b;a=c;").points(1, A), NONE);
        due("to itself", lines("a=&b;a=a;").points(1, A), B);
        due("nowhere is no miss", lines("a=b;").misses(9), 0);
    }

    private static void runLoad() {
        due("that points nowhere", lines("a=&c;b=&d;a=*b;").points(1, A), NONE);
        due("no miss by that", lines("a=&c;b=&d;a=*b;").misses(1), 0);
        due("y points to x", lines("a=&c;b=&a;a=*b;").points(1, A), C);
        due("y points to y", lines("b=&b;a=*b;").points(1, A), B);
    }

    private static void runStore() {
        due("y points nowhere", lines("c=&d;a=&c;*a=b;").points(1, C), NONE);
        due("no miss by that", lines("c=&d;a=&c;*a=b;").misses(1), 0);
        due("x points to x", lines("a=&a;b=&c;*a=b;").points(1, A), C);
        due("x points to y", lines("a=&b;b=&c;*a=b;").points(1, B), C);
        due("x and y alike", lines("a=&b;*a=a;").points(1, B), B);
    }

    private static void runMiss() {
        JoinedNames load = lines("a=&c;a=*b;");
        due("by y, counted", load.misses(1), 1);
        due("by y, x stays", load.points(1, A), C);
        JoinedNames store = lines("b=&c;*a=b;");
        due("by x, counted", store.misses(1), 1);
        for (int x = 0; x < 10; x++) {
            due("by x, all stay", store.points(1, x), x == B ? C : NONE);
            due("by x, nothing seen", store.seen(1, x), x == B ? bits("c") : 0);
        }
        due("y pointing nowhere is none by *x=y", lines("a=&b;*a=c;").misses(1), 0);
        due("x pointing nowhere is none by x=*y", lines("b=&c;a=*b;").misses(1), 0);
    }

    private static void runSeen() {
        due("at the end of the first line", lines("a=&b;a=&c;a=d;").seen(1, A), bits("bc"));
        due("at the end of the last line", lines(THIRTEEN + "a=&j;").seen(1, A), bits("j"));
        due("written through another", lines("a=&b;c=&d;*a=c;b=e;").seen(1, B), bits("d"));
        due("in the last of nine rounds", lines("j=i;i=h;h=g;g=f;f=e;e=d;d=c;c=b;b=a;a=&a;").seen(9, I), bits("a"));
        due("never", lines("a=b;").seen(9, A), 0);
    }

    // ---- texts

    private static void texts() {
        term("16, 18", "THE TEXT (120 bytes at most)", TermsEdgesTest::text120);
        term("18", "tells LINES, each ended by ; : as told above", TermsEdgesTest::textEnded);
        term("18", "(perhaps none; they take the place of all)", TermsEdgesTest::textNone);
        term("18", "Blanks (32) may stand anywhere.", TermsEdgesTest::textBlanks);
        term("18", "FAULT: the place of the first byte that can not stand there", TermsEdgesTest::textFirstByte);
        term("18", "(the first byte of a 15th LINE)", TermsEdgesTest::textFifteenth);
        term("18", "the TEXT's length, if it ends too early.", TermsEdgesTest::textTooEarly);
    }

    private static void text120() {
        JoinedNames n = new JoinedNames();
        type(n, " ".repeat(116) + "a=b");
        due("119 bytes", n.reads(), -129);
        due("the 120th", n.type(';'), 120);
        due("all 120 are read", n.reads(), 1);
        due("the 121st", n.type(';'), FULL);
        due("it is not there", n.reads(), 1);
    }

    private static void textEnded() {
        for (String line : new String[] {"a=&b", "a=b", "a=*b", "*a=b"}) {
            int length = line.length();
            due("without " + line, reads(new JoinedNames(), line), -10 - length);
            due("with " + line + ";", reads(new JoinedNames(), line + ";"), 1);
            due("two, the last not ended", reads(new JoinedNames(), line + ";" + line), -10 - 2 * length - 1);
            due("two, the first not ended", reads(new JoinedNames(), line + line + ";"), -10 - length);
            due("ended twice", reads(new JoinedNames(), line + ";;"), -10 - length - 1);
        }
        due("; alone ends no line", reads(new JoinedNames(), ";"), -10);
    }

    private static void textNone() {
        JoinedNames n = full();
        due("an empty text", reads(n, ""), 0);
        due("none are left", n.told(4), 0);
        JoinedNames m = full();
        due("120 blanks", reads(m, " ".repeat(120)), 0);
        due("none are left, too", m.told(4), 0);
        due("none instead of none", reads(new JoinedNames(), ""), 0);
        JoinedNames one = full();
        due("one instead of 14", reads(one, "a=b;"), 1);
        dueLines("that one alone", one, "a=b;");
    }

    private static void textBlanks() {
        String text = "a=&b;c=d;e=*f;*g=h;";
        for (int k = 0; k <= text.length(); k++) {
            JoinedNames n = new JoinedNames();
            due("a blank at " + k, reads(n, text.substring(0, k) + " " + text.substring(k)), 4);
            dueLines("with a blank at " + k, n, text);
            for (char other : new char[] {31, 33, 9, 10, 13, 0, 127}) {
                String with = text.substring(0, k) + other + text.substring(k);
                due("the byte " + (int) other + " at " + k, reads(new JoinedNames(), with), -10 - k);
            }
        }
        JoinedNames wide = new JoinedNames();
        due("blanks everywhere", reads(wide, "  " + text.replaceAll("(.)", "$1  ")), 4);
        dueLines("with blanks everywhere", wide, text);
        due("blanks behind the 14th", reads(wide, FOURTEEN + "   "), 14);
    }

    /** What may stand behind each beginning, beside a blank. */
    private static void textFirstByte() {
        String left = NAMES + "*";
        String right = NAMES + "&*";
        String[][] places = {{"", left}, {"*", NAMES}, {"a", "="}, {"*j", "="}, {"a=", right}, {"*a=", NAMES},
            {"a=&", NAMES}, {"a=*", NAMES}, {"a=b", ";"}, {"a=&j", ";"}, {"a=*j", ";"}, {"*a=j", ";"},
            {"a=b;", left}, {"*a=b; ", left}, {"a=b;*", NAMES}, {THIRTEEN, left}, {THIRTEEN + "a=", right},
            {FOURTEEN, ""}, {FOURTEEN + "  ", ""}};
        for (String[] place : places) {
            for (char c = 0; c < 128; c++) {
                dueBehind(place[0], c, c == ' ' || place[1].indexOf(c) >= 0);
            }
        }
        due("the first of two", reads(new JoinedNames(), "a=b;k=l;"), -14);
        due("ahead of the 15th", reads(new JoinedNames(), "a=b;;" + FOURTEEN), -14);
        due("the text that goes on behind it is not looked at", reads(new JoinedNames(), "a?=b;c=d;"), -11);
    }

    private static void dueBehind(String beginning, char c, boolean stands) {
        String text = beginning + c;
        int size = (int) text.chars().filter(b -> b == ';').count();
        boolean whole = text.isBlank() || text.trim().endsWith(";");
        int want = !stands ? -10 - beginning.length() : whole ? size : -10 - text.length();
        due("reads of '" + beginning + "' and " + (int) c, reads(new JoinedNames(), text), want);
    }

    private static void textFifteenth() {
        for (String fifteenth : new String[] {"a=b;", "*a=b;", "a=*b;", "j=&j;", "a", "*", "a=", ";", "k", "  a=b;"}) {
            int blanks = fifteenth.indexOf(fifteenth.trim());
            due("'" + fifteenth + "' behind 14", reads(new JoinedNames(), FOURTEEN + fifteenth), -66 - blanks);
            due("'" + fifteenth + "' behind 13", reads(new JoinedNames(), THIRTEEN + fifteenth) == -62 - blanks ? 1 : 0,
                fifteenth.equals(";") || fifteenth.equals("k") ? 1 : 0);
        }
        JoinedNames n = some();
        reads(n, FOURTEEN + "a=b;");
        due("it is no FULL", n.told(2), 0);
        due("nor are the 14 taken", n.told(4), 3);
    }

    private static void textTooEarly() {
        for (String line : new String[] {"a=&b;", "a=b;", "a=*b;", "*a=b;"}) {
            for (int k = 1; k < line.length(); k++) {
                String early = line.substring(0, k);
                due("'" + early + "'", reads(new JoinedNames(), early), -10 - k);
                due("'" + early + "' behind 13", reads(new JoinedNames(), THIRTEEN + early), -10 - 52 - k);
                due("'" + early + "' and three blanks", reads(new JoinedNames(), early + "   "), -10 - k - 3);
                String last = " ".repeat(120 - k) + early;
                due("'" + early + "' at the end of 120", reads(new JoinedNames(), last), -130);
            }
        }
        due("an empty text ends not too early", reads(new JoinedNames(), ""), 0);
    }

    // ---- states and refusals

    private static void statesAndRefusals() {
        term("2 to 4, 18, 20, 21", "each call told S, if it is not refused, leaves one", TermsEdgesTest::statesLeft);
        term("4, 18, 20", "also if nothing changes by it", TermsEdgesTest::statesOfNothing);
        term("20", "to go back to (LINES)", TermsEdgesTest::statesOfLines);
        term("20, 21", "5 at most, older ones lost.", TermsEdgesTest::statesFive);
        term("2 to 22", "Refused (a question, too), changing nothing but how often", TermsEdgesTest::refusedChanges);
        term("2, 16, 20", "the first of: BAD -2 a number is not as told; NO -3 as told; FULL -4 as told.",
            TermsEdgesTest::refusedFirst);
        term("18, 21", "By what THE TEXT tells, by a FAULT of it nothing counts.", TermsEdgesTest::textCountsNot);
    }

    private static void dueState(String call, ToIntFunction<JoinedNames> asked, int more) {
        JoinedNames n = some();
        int before = n.told(5);
        asked.applyAsInt(n);
        due("states by " + call, n.told(5) - before, more);
    }

    private static void statesLeft() {
        dueState("line", n -> n.line(0, A, A), 1);
        dueState("drops", n -> n.drops(0), 1);
        dueState("moves", n -> n.moves(0, 2), 1);
        dueState("reads", n -> n.type(';') + n.reads(), 1);
        dueState("line, refused", n -> n.line(0, A, 10), 0);
        dueState("drops, refused", n -> n.drops(3), 0);
        dueState("moves, refused", n -> n.moves(0, 3), 0);
        dueState("reads, a FAULT", n -> n.reads(), 0);
        dueState("type", n -> n.type('a'), 0);
        dueState("clear", n -> n.clear(), 0);
        dueState("digest", n -> (int) n.digest(), 0);
        dueState("back", n -> n.back(), -1);
        dueState("a line that is FULL", n -> n.type(';') + lineTillFull(n), 2);
    }

    /** 11 lines more, of which five states remain, then one that is refused. */
    private static int lineTillFull(JoinedNames n) {
        for (int i = 3; i < 15; i++) {
            n.line(1, A, B);
        }
        return n.told(5);
    }

    private static void statesOfNothing() {
        dueState("moves to its own place", n -> n.moves(1, 1), 1);
        JoinedNames n = new JoinedNames();
        n.reads();
        due("none instead of none", n.told(5), 1);
        due("one to go back", n.back(), 0);
        JoinedNames same = lines("a=b;");
        same.reads();
        due("the same lines", same.told(5), 2);
        same.back();
        dueLines("behind back", same, "a=b;");
        JoinedNames alike = lines("a=b;a=b;");
        alike.moves(0, 1);
        due("lines alike", alike.told(5), 2);
    }

    private static void statesOfLines() {
        JoinedNames n = lines("a=&b;*c=d;");
        reads(n, FOURTEEN);
        n.fine(10);
        n.line(0, A, A);
        n.back();
        dueLines("all of them, in order", n, "a=&b;*c=d;");
        due("not the text", n.told(3), 56);
        due("not how often BAD", n.told(0), 1);
        due("not how often FULL", n.told(2), 1);
        due("what may be is that of the lines", n.fine(A), bits("b"));
        n.back();
        due("14 lines are gone to none", n.told(4), 0);
    }

    private static void statesFive() {
        for (int made = 1; made <= 14; made++) {
            JoinedNames n = new JoinedNames();
            for (int i = 0; i < made; i++) {
                n.line(1, i % 10, A);
            }
            int kept = Math.min(5, made);
            due("kept of " + made, n.told(5), kept);
            for (int k = kept - 1; k >= 0; k--) {
                due("back of " + made, n.back(), k);
                due("lines behind back of " + made, n.told(4), made - kept + k);
            }
            due("no older one of " + made, n.back(), NO);
            due("the lines stay", n.told(4), made - kept);
        }
        dueFiveByTurns();
    }

    /** Many more states than five, with backs between. */
    private static void dueFiveByTurns() {
        JoinedNames n = new JoinedNames();
        for (int i = 0; i < 7; i++) {
            n.line(1, i, A);
        }
        n.back();
        n.back();
        n.line(2, J, J);
        n.line(2, J, I);
        n.line(2, J, H);
        due("five again", n.told(5), 5);
        String three = "a=a;b=a;c=a;";
        String[] more = {"d=a;e=a;j=*j;j=*i;", "d=a;e=a;j=*j;", "d=a;e=a;", "d=a;", ""};
        for (int k = 0; k < 5; k++) {
            due("by turns, back " + k, n.back(), 4 - k);
            dueLines("by turns, back " + k, n, three + more[k]);
        }
        due("by turns, none", n.back(), NO);
    }

    private static void refusedChanges() {
        dueStays("line", Edges::some, n -> n.line(-1, A, A), BAD);
        dueStays("line, full", Edges::full, n -> n.line(0, A, A), FULL);
        dueStays("drops", Edges::some, n -> n.drops(-1), BAD);
        dueStays("moves", Edges::some, n -> n.moves(-1, 0), BAD);
        dueStays("of", Edges::some, n -> n.of(-1, 0), BAD);
        dueStays("clash", Edges::some, n -> n.clash(-1, 0), BAD);
        dueStays("fine", Edges::some, n -> n.fine(-1), BAD);
        dueStays("coarse", Edges::some, n -> n.coarse(-1), BAD);
        dueStays("group", Edges::some, n -> n.group(-1, 0), BAD);
        dueStays("count", Edges::some, n -> n.count(-1), BAD);
        dueStays("alias", Edges::some, n -> n.alias(-1, 0, 0), BAD);
        dueStays("without", Edges::some, n -> n.without(-1, 0, 0), BAD);
        dueStays("points", Edges::some, n -> n.points(-1, 0), BAD);
        dueStays("seen", Edges::some, n -> n.seen(-1, 0), BAD);
        dueStays("misses", Edges::some, n -> n.misses(-1), BAD);
        dueStays("type", Edges::some, n -> n.type(-1), BAD);
        dueStays("type, full", Edges::full, n -> n.type(0), FULL);
        dueStays("shown", Edges::some, n -> n.shown(-2), BAD);
        dueStays("back", JoinedNames::new, JoinedNames::back, NO);
        dueStays("told", Edges::some, n -> n.told(-1), BAD);
        questionsChangeNothing();
    }

    /** A question that is answered changes not even how often. */
    private static void questionsChangeNothing() {
        dueStays("of, answered", Edges::some, n -> n.of(1, 4), bits("ab"));
        dueStays("clash, answered", Edges::some, n -> n.clash(0, 1), 1);
        dueStays("fine, answered", Edges::some, n -> n.fine(A), bits("b"));
        dueStays("coarse, answered", Edges::some, n -> n.coarse(A), bits("b"));
        dueStays("group, answered", Edges::some, n -> n.group(A, 2), B);
        dueStays("count, answered", Edges::some, n -> n.count(0), 10);
        dueStays("alias, answered", Edges::some, n -> n.alias(A, A, 1), 1);
        dueStays("without, answered", Edges::some, n -> n.without(0, A, 0), 1);
        dueStays("points, answered", Edges::some, n -> n.points(9, A), B);
        dueStays("seen, answered", Edges::some, n -> n.seen(9, A), bits("b"));
        dueStays("misses, answered", Edges::some, n -> n.misses(1), 1);
        dueStays("shown, answered", Edges::some, n -> n.shown(NONE), 15);
        dueStays("told, answered", Edges::some, n -> n.told(0), 1);
    }

    private static void refusedFirst() {
        dueStays("line, BAD ahead of FULL", Edges::full, n -> n.line(4, A, A), BAD);
        dueStays("type, BAD ahead of FULL", Edges::full, n -> n.type(128), BAD);
        dueStays("line, FULL", Edges::full, n -> n.line(3, J, J), FULL);
        dueStays("type, FULL", Edges::full, n -> n.type(127), FULL);
        dueStays("back, NO", JoinedNames::new, JoinedNames::back, NO);
        due("BAD", JoinedNames.BAD, -2);
        due("NO", JoinedNames.NO, -3);
        due("FULL", JoinedNames.FULL, -4);
    }

    private static void textCountsNot() {
        String[] faulty = {"k=a;", "a=k;", ";", "a", FOURTEEN + "a=b;", FOURTEEN + "k", "a=b;" + (char) 127};
        JoinedNames n = some();
        for (String text : faulty) {
            due("'" + text + "' has a FAULT", reads(n, text) <= -10 ? 1 : 0, 1);
            due("not as BAD", n.told(0), 1);
            due("not as NO", n.told(1), 1);
            due("not as FULL", n.told(2), 0);
            due("no state", n.told(5), 3);
        }
        JoinedNames full = full();
        due("14 lines, told though there are 14", full.reads(), 14);
        due("are not FULL", full.told(2), 0);
    }
}
