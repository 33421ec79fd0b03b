/** Promises 13 to 15: a test for each sentence that names a boundary case. */
public final class RunsEdgesTest extends Edges {
    /** Each round one name more points to a: behind n rounds the names 0 .. n less 1 do. */
    private static final String ROUND_BY_ROUND = "j=i;i=h;h=g;g=f;f=e;e=d;d=c;c=b;b=a;a=&a;";

    public static void main(String[] args) {
        sentence(13, "RUN of n ROUNDS (0 .. 9)", RunsEdgesTest::promise13Rounds);
        sentence(13, "where a NAME points at the end", RunsEdgesTest::promise13AtTheEnd);
        sentence(13, "NONE: nowhere.", RunsEdgesTest::promise13Nowhere);
        sentence(13, "BAD.", RunsEdgesTest::promise13Bad);

        sentence(14, "SEEN of a NAME in a RUN of n ROUNDS", RunsEdgesTest::promise14Rounds);
        sentence(14, "as bits.", RunsEdgesTest::promise14Bits);
        sentence(14, "BAD.", RunsEdgesTest::promise14Bad);

        sentence(15, "How many MISSES a RUN of n ROUNDS has.", RunsEdgesTest::promise15Misses);
        sentence(15, "BAD.", RunsEdgesTest::promise15Bad);
        Check.end("RunsEdgesTest");
    }

    private static void promise13Rounds() {
        JoinedNames n = lines(ROUND_BY_ROUND);
        for (int rounds = 0; rounds <= 9; rounds++) {
            for (int x = 0; x < 10; x++) {
                due("points(" + rounds + ", " + x + ")", n.points(rounds, x), x < rounds ? A : NONE);
            }
        }
        due("a run begins anew", n.points(0, A), NONE);
        due("no lines, no rounds", lines("").points(0, A), NONE);
        due("no lines, nine rounds", lines("").points(9, J), NONE);
    }

    private static void promise13AtTheEnd() {
        due("the last of 14 lines", lines(THIRTEEN + "a=&j;").points(1, A), J);
        due("the first of 14 lines", lines("j=&a;" + THIRTEEN).points(1, J), A);
        due("the last line of the last round", lines("a=&a;a=&j;").points(9, A), J);
        due("by turns, an even round", lines("c=a;a=b;b=c;a=&d;").points(2, B), D);
        JoinedNames turns = lines("c=*a;b=&i;*a=b;a=&d;d=&e;");
        due("by rounds, the first", turns.points(1, D), E);
        due("by rounds, the second", turns.points(2, C), E);
    }

    private static void promise13Nowhere() {
        due("never told", lines("a=&b;").points(9, B), NONE);
        due("set, then nowhere by sort 1", lines("a=&b;a=c;").points(1, A), NONE);
        due("set, then nowhere by sort 2", lines("a=&b;c=&d;a=*c;").points(1, A), NONE);
        due("set, then nowhere by sort 3", lines("a=&b;c=&a;*c=d;").points(1, A), NONE);
        due("not the first name", lines("a=&a;").points(1, A), A);
    }

    private static void promise13Bad() {
        dueRange("points n of none", JoinedNames::new, (n, v) -> n.points(v, A), 0, 9);
        dueRange("points x of none", JoinedNames::new, (n, v) -> n.points(0, v), 0, 9);
        dueRange("points n of some", Edges::some, (n, v) -> n.points(v, J), 0, 9);
        dueRange("points x of 14", Edges::full, (n, v) -> n.points(9, v), 0, 9);
        dueStays("points, both wrong, is BAD once", Edges::some, n -> n.points(10, 10), BAD);
    }

    private static void promise14Rounds() {
        JoinedNames n = lines(ROUND_BY_ROUND);
        for (int rounds = 0; rounds <= 9; rounds++) {
            for (int x = 0; x < 10; x++) {
                due("seen(" + rounds + ", " + x + ")", n.seen(rounds, x), x < rounds ? 1 : 0);
            }
        }
        due("a run begins anew", n.seen(0, A), 0);
        due("no lines, no rounds", lines("").seen(0, A), 0);
        due("no lines, nine rounds", lines("").seen(9, J), 0);
        JoinedNames more = lines("a=b;b=&c;a=&d;");
        due("one round", more.seen(1, A), bits("d"));
        due("one round more", more.seen(2, A), bits("cd"));
    }

    private static void promise14Bits() {
        due("none", lines("a=b;").seen(9, A), 0);
        due("the first bit", lines("j=&a;").seen(1, J), 1);
        due("the last bit", lines("a=&j;").seen(1, A), 512);
        due("all ten", lines(allOf('j')).seen(1, J), 1023);
        due("all ten, then nowhere", lines(allOf('a') + "a=b;").seen(1, A), 1023);
        due("of another name", lines(allOf('a')).seen(1, B), 0);
    }

    private static void promise14Bad() {
        dueRange("seen n of none", JoinedNames::new, (n, v) -> n.seen(v, A), 0, 9);
        dueRange("seen x of none", JoinedNames::new, (n, v) -> n.seen(0, v), 0, 9);
        dueRange("seen n of some", Edges::some, (n, v) -> n.seen(v, J), 0, 9);
        dueRange("seen x of 14", Edges::full, (n, v) -> n.seen(9, v), 0, 9);
        dueStays("seen, both wrong, is BAD once", Edges::some, n -> n.seen(-1, -1), BAD);
    }

    private static void promise15Misses() {
        due("no lines", lines("").misses(9), 0);
        JoinedNames most = lines("a=*b;".repeat(7) + "*c=d;".repeat(7));
        for (int rounds = 0; rounds <= 9; rounds++) {
            due("14 lines that miss, misses(" + rounds + ")", most.misses(rounds), 14 * rounds);
        }
        JoinedNames first = lines("a=*b;*b=a;b=&c;");
        for (int rounds = 0; rounds <= 9; rounds++) {
            due("in the first round alone, misses(" + rounds + ")", first.misses(rounds), rounds == 0 ? 0 : 2);
        }
        due("sorts 0 and 1 never miss", lines("a=&b;c=d;d=c;").misses(9), 0);
    }

    private static void promise15Bad() {
        dueRange("misses of none", JoinedNames::new, JoinedNames::misses, 0, 9);
        dueRange("misses of some", Edges::some, JoinedNames::misses, 0, 9);
        dueRange("misses of 14", Edges::full, JoinedNames::misses, 0, 9);
    }
}
