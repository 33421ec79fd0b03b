/** Promises 7 to 12: a test for each sentence that names a boundary case. */
public final class MayBeEdgesTest extends Edges {
    /** Ten lines: each name may point to itself. */
    private static final String SELVES = "a=&a;b=&b;c=&c;d=&d;e=&e;f=&f;g=&g;h=&h;i=&i;j=&j;";
    /** Ten lines: a ring in which each name may point to the next. */
    private static final String RING = "a=&b;b=&c;c=&d;d=&e;e=&f;f=&g;g=&h;h=&i;i=&j;j=&a;";

    public static void main(String[] args) {
        sentence(7, "FINE of a NAME, as bits.", MayBeEdgesTest::promise7Bits);
        sentence(7, "BAD.", MayBeEdgesTest::promise7Bad);

        sentence(8, "COARSE of a NAME, as bits.", MayBeEdgesTest::promise8Bits);
        sentence(8, "BAD.", MayBeEdgesTest::promise8Bad);

        sentence(9, "The GROUP of a NAME, as bits (what 0)", MayBeEdgesTest::promise9Bits);
        sentence(9, "the least NAME of it (1)", MayBeEdgesTest::promise9Least);
        sentence(9, "the least NAME of the GROUP it points to (2; NONE).", MayBeEdgesTest::promise9Target);
        sentence(9, "BAD.", MayBeEdgesTest::promise9Bad);

        sentence(10, "How many GROUPS there are (what 0)", MayBeEdgesTest::promise10Groups);
        sentence(10, "that point to one (1)", MayBeEdgesTest::promise10Pointing);
        sentence(10, "that point to themselves (2)", MayBeEdgesTest::promise10Selves);
        sentence(10, "NAMES together of all FINE sets (3)", MayBeEdgesTest::promise10Fine);
        sentence(10, "of all COARSE ones (4).", MayBeEdgesTest::promise10Coarse);
        sentence(10, "BAD.", MayBeEdgesTest::promise10Bad);

        sentence(11, "Whether two NAMES may point to one and the same", MayBeEdgesTest::promise11Alike);
        sentence(11, "by FINE (how 0)", MayBeEdgesTest::promise11Fine);
        sentence(11, "by COARSE (1)", MayBeEdgesTest::promise11Coarse);
        sentence(11, "BAD.", MayBeEdgesTest::promise11Bad);

        sentence(12, "By how many NAMES FINE of x (what 0)", MayBeEdgesTest::promise12Fine);
        sentence(12, "COARSE of x (1) is less", MayBeEdgesTest::promise12Coarse);
        sentence(12, "were LINE i not there.", MayBeEdgesTest::promise12NotThere);
        sentence(12, "BAD.", MayBeEdgesTest::promise12Bad);
        Check.end("MayBeEdgesTest");
    }

    private static void promise7Bits() {
        due("none", lines("a=b;b=*c;*c=d;").fine(A), 0);
        due("the first bit", lines("j=&a;").fine(J), 1);
        due("the last bit", lines("a=&j;").fine(A), 512);
        due("all ten", lines(allOf('j')).fine(J), 1023);
        due("all ten over four lines", lines(allOf('a') + "b=a;c=&b;d=*c;*c=d;").fine(D), 1023);
        due("told twice, once in the set", lines("a=&b;a=&b;").fine(A), bits("b"));
        JoinedNames gone = lines("a=&b;");
        gone.drops(0);
        due("none behind drops", gone.fine(A), 0);
    }

    private static void promise7Bad() {
        dueRange("fine", JoinedNames::new, JoinedNames::fine, 0, 9);
        dueRange("fine of some", Edges::some, JoinedNames::fine, 0, 9);
        dueRange("fine of 14", Edges::full, JoinedNames::fine, 0, 9);
    }

    private static void promise8Bits() {
        due("none", lines("a=b;b=*c;*c=d;").coarse(A), 0);
        due("the first bit", lines("j=&a;").coarse(J), 1);
        due("the last bit", lines("a=&j;").coarse(A), 512);
        due("all ten", lines(allOf('j')).coarse(J), 1023);
        due("all ten, for each name", lines(allOf('j')).coarse(A), 1023);
        due("nine, not x itself", lines("a=&b;a=&c;a=&d;a=&e;a=&f;a=&g;a=&h;a=&i;a=&j;").coarse(A), 1022);
        JoinedNames gone = lines("a=&b;");
        gone.drops(0);
        due("none behind drops", gone.coarse(A), 0);
    }

    private static void promise8Bad() {
        dueRange("coarse", JoinedNames::new, JoinedNames::coarse, 0, 9);
        dueRange("coarse of some", Edges::some, JoinedNames::coarse, 0, 9);
        dueRange("coarse of 14", Edges::full, JoinedNames::coarse, 0, 9);
    }

    private static void promise9Bits() {
        JoinedNames none = lines("");
        due("alone, the first", none.group(A, 0), 1);
        due("alone, the last", none.group(J, 0), 512);
        JoinedNames ends = lines("b=&a;b=&j;");
        due("of the first name", ends.group(A, 0), bits("aj"));
        due("of the last name", ends.group(J, 0), bits("aj"));
        due("of one that is not joined", ends.group(B, 0), bits("b"));
        for (int x = 0; x < 10; x++) {
            due("all ten in one", lines(allOf('e')).group(x, 0), 1023);
        }
    }

    private static void promise9Least() {
        due("alone, the first", lines("").group(A, 1), A);
        due("alone, the last", lines("").group(J, 1), J);
        due("the first of two ends", lines("b=&j;b=&a;").group(J, 1), A);
        due("the least is itself", lines("b=&j;b=&i;").group(I, 1), I);
        due("the last two", lines("b=&j;b=&i;").group(J, 1), I);
        for (int x = 0; x < 10; x++) {
            due("all ten in one", lines(allOf('e')).group(x, 1), A);
        }
    }

    private static void promise9Target() {
        due("none", lines("").group(J, 2), NONE);
        due("pointed to, pointing to none", lines("a=&b;").group(B, 2), NONE);
        due("the first", lines("j=&a;").group(J, 2), A);
        due("the last", lines("a=&j;").group(A, 2), J);
        due("itself, the last", lines("j=&j;").group(J, 2), J);
        due("the least of what it points to", lines("a=&j;a=&i;").group(A, 2), I);
        due("the same for each of a group", lines("a=&b;a=&c;c=&j;").group(B, 2), J);
        due("all ten in one", lines(allOf('e')).group(J, 2), A);
    }

    private static void promise9Bad() {
        dueRange("group x", JoinedNames::new, (n, x) -> n.group(x, 0), 0, 9);
        dueRange("group x, least", Edges::some, (n, x) -> n.group(x, 1), 0, 9);
        dueRange("group x, pointed to", Edges::full, (n, x) -> n.group(x, 2), 0, 9);
        dueRange("group what", JoinedNames::new, (n, what) -> n.group(A, what), 0, 2);
        dueRange("group what of 14", Edges::full, (n, what) -> n.group(J, what), 0, 2);
        dueStays("group, both wrong, is BAD once", Edges::some, n -> n.group(10, 3), BAD);
    }

    private static void promise10Groups() {
        due("no lines", lines("").count(0), 10);
        due("nothing joined", lines(RING).count(0), 10);
        due("two joined", lines("a=&b;a=&j;").count(0), 9);
        due("all but one joined", lines("a=&b;a=&c;a=&d;a=&e;a=&f;a=&g;a=&h;a=&i;a=&j;").count(0), 2);
        due("all joined", lines(allOf('a')).count(0), 1);
    }

    private static void promise10Pointing() {
        due("no lines", lines("").count(1), 0);
        due("nothing pointed to", lines("a=b;c=*d;*e=f;").count(1), 0);
        due("one", lines("j=&a;").count(1), 1);
        due("all ten", lines(RING).count(1), 10);
        due("the only one", lines(allOf('a')).count(1), 1);
        due("a group counts once", lines("a=&b;a=&c;b=&d;c=&d;").count(1), 2);
        due("a group counts once, joined last", lines("b=&d;c=&d;a=&b;a=&c;").count(1), 2);
    }

    private static void promise10Selves() {
        due("no lines", lines("").count(2), 0);
        due("ten point, none to itself", lines(RING).count(2), 0);
        due("all ten", lines(SELVES).count(2), 10);
        due("the only one", lines(allOf('a')).count(2), 1);
        due("joined to itself", lines("a=&b;b=&a;c=&a;c=&b;").count(2), 1);
    }

    private static void promise10Fine() {
        due("no lines", lines("").count(3), 0);
        due("one", lines("a=&j;").count(3), 1);
        due("two sets alike count twice", lines("a=&j;b=&j;").count(3), 2);
        due("ten of one", lines(RING).count(3), 10);
        due("all hundred", lines(allOf('a') + "*a=a;").count(3), 100);
    }

    private static void promise10Coarse() {
        due("no lines", lines("").count(4), 0);
        due("one", lines("a=&j;").count(4), 1);
        due("more than of FINE", lines("a=&b;a=&c;d=&b;").count(4), 4);
        due("ten of one", lines(RING).count(4), 10);
        due("all hundred", lines(allOf('a')).count(4), 100);
    }

    private static void promise10Bad() {
        dueRange("count", JoinedNames::new, JoinedNames::count, 0, 4);
        dueRange("count of some", Edges::some, JoinedNames::count, 0, 4);
        dueRange("count of 14", Edges::full, JoinedNames::count, 0, 4);
    }

    private static void promise11Alike() {
        for (int how = 0; how < 2; how++) {
            due("no lines", lines("").alias(A, J, how), 0);
            due("a name with itself that points to none", lines("").alias(A, A, how), 0);
            due("a name with itself", lines("j=&j;").alias(J, J, how), 1);
            due("one points, the other one to none", lines("a=&j;").alias(A, J, how), 0);
            due("the other way round", lines("a=&j;").alias(J, A, how), 0);
            due("the first bit", lines("b=&a;j=&a;").alias(B, J, how), 1);
            due("the last bit", lines("a=&j;b=&j;").alias(A, B, how), 1);
            due("pointing to one another is not the same", lines("a=&b;b=&a;").alias(A, B, how), 0);
        }
    }

    private static void promise11Fine() {
        JoinedNames n = lines("a=&c;b=&d;e=&c;e=&d;");
        due("joined is not the same", n.alias(A, B, 0), 0);
        due("one of two in common", n.alias(A, E, 0), 1);
        due("the other one", n.alias(E, B, 0), 1);
    }

    private static void promise11Coarse() {
        JoinedNames n = lines("a=&c;b=&d;e=&c;e=&d;f=&g;");
        due("joined is the same", n.alias(A, B, 1), 1);
        due("not joined", n.alias(A, F, 1), 0);
        n.drops(3);
        due("no longer joined", n.alias(A, B, 1), 0);
    }

    private static void promise11Bad() {
        dueRange("alias x", JoinedNames::new, (n, x) -> n.alias(x, A, 0), 0, 9);
        dueRange("alias y", JoinedNames::new, (n, y) -> n.alias(A, y, 0), 0, 9);
        dueRange("alias how", JoinedNames::new, (n, how) -> n.alias(A, A, how), 0, 1);
        dueRange("alias x of 14", Edges::full, (n, x) -> n.alias(x, J, 1), 0, 9);
        dueRange("alias y of 14", Edges::full, (n, y) -> n.alias(J, y, 1), 0, 9);
        dueRange("alias how of some", Edges::some, (n, how) -> n.alias(A, C, how), 0, 1);
        dueStays("alias, all three wrong, is BAD once", Edges::some, n -> n.alias(10, -1, 2), BAD);
    }

    private static void promise12Fine() {
        due("none less", lines("a=&b;a=&b;").without(0, A, 0), 0);
        due("one less, none left", lines("a=&b;").without(0, A, 0), 1);
        due("one less of ten", lines(allOf('a')).without(9, A, 0), 1);
        due("all ten less", lines(allOf('a') + "j=a;").without(10, J, 0), 10);
        due("what another line loses by it", lines("c=&a;a=&b;d=*c;").without(0, D, 0), 1);
        due("of a name the line does not touch", lines("a=&b;").without(0, J, 0), 0);
    }

    private static void promise12Coarse() {
        due("none less", lines("a=&b;a=&b;").without(1, A, 1), 0);
        due("one less, none left", lines("a=&b;").without(0, A, 1), 1);
        due("none less: the others join all", lines(allOf('a') + "j=a;").without(10, J, 1), 0);
        due("all ten less", lines(allOf('a')).without(0, J, 1), 10);
        due("one less of ten", lines(allOf('a')).without(0, A, 1), 1);
        due("one less of ten, another line", lines(allOf('a')).without(9, A, 1), 1);
        due("FINE has none, COARSE has one less", lines("a=&b;a=&c;d=&b;").without(1, D, 1), 1);
        due("FINE none less", lines("a=&b;a=&c;d=&b;").without(1, D, 0), 0);
    }

    private static void promise12NotThere() {
        JoinedNames first = lines("a=&b;a=&c;a=&d;");
        for (int i = 0; i < 3; i++) {
            due("without line " + i, first.without(i, A, 0), 1);
        }
        JoinedNames last = lines(THIRTEEN + "j=&a;");
        due("without the 14th", last.without(13, J, 0), 1);
        due("without the 14th, coarse", last.without(13, J, 1), 1);
        due("without the first of 14", last.without(0, J, 0), 0);
        dueStays("the line is still there", Edges::some, n -> n.without(0, A, 0), 1);
        dueStays("the line is still there, coarse", Edges::some, n -> n.without(0, A, 1), 1);
    }

    private static void promise12Bad() {
        dueRange("without i of none", JoinedNames::new, (n, i) -> n.without(i, A, 0), 0, -1);
        dueRange("without i of one", () -> lines("a=&b;"), (n, i) -> n.without(i, A, 0), 0, 0);
        dueRange("without i of three", Edges::some, (n, i) -> n.without(i, A, 1), 0, 2);
        dueRange("without i of 14", Edges::full, (n, i) -> n.without(i, J, 1), 0, 13);
        dueRange("without x", Edges::some, (n, x) -> n.without(0, x, 0), 0, 9);
        dueRange("without x of 14", Edges::full, (n, x) -> n.without(13, x, 1), 0, 9);
        dueRange("without what", Edges::some, (n, what) -> n.without(0, A, what), 0, 1);
        dueRange("without x of none", JoinedNames::new, (n, x) -> n.without(0, x, 0), 0, -1);
        dueStays("without, all three wrong, is BAD once", Edges::some, n -> n.without(3, 10, 2), BAD);
    }
}
