import java.math.BigInteger;
import java.util.ArrayList;
import java.util.List;

/** Promises 16 to 22: a test for each sentence that names a boundary case. */
public final class TextsEdgesTest extends Edges {
    public static void main(String[] args) {
        sentence(16, "A byte (0 .. 127) comes behind THE TEXT", TextsEdgesTest::promise16Behind);
        sentence(16, "how many it has.", TextsEdgesTest::promise16HowMany);
        sentence(16, "BAD;", TextsEdgesTest::promise16Bad);
        sentence(16, "FULL: 120.", TextsEdgesTest::promise16Full);

        sentence(17, "THE TEXT is empty", TextsEdgesTest::promise17Empty);
        sentence(17, "how many it had.", TextsEdgesTest::promise17Had);

        sentence(18, "LINES become those of THE TEXT", TextsEdgesTest::promise18Become);
        sentence(18, "(which stays)", TextsEdgesTest::promise18TextStays);
        sentence(18, "how many.", TextsEdgesTest::promise18HowMany);
        sentence(18, "S.", TextsEdgesTest::promise18State);
        sentence(18, "-10 less the FAULT", TextsEdgesTest::promise18Fault);
        sentence(18, "all stays.", TextsEdgesTest::promise18AllStays);

        sentence(19, "The k-th byte (0 on) of LINES written without blanks, each with its ; ;", TextsEdgesTest::promise19Byte);
        sentence(19, "how many (k NONE)", TextsEdgesTest::promise19HowMany);
        sentence(19, "-5: not so many.", TextsEdgesTest::promise19NotSoMany);
        sentence(19, "BAD: k below -1.", TextsEdgesTest::promise19Bad);

        sentence(20, "A STATE back", TextsEdgesTest::promise20Back);
        sentence(20, "how many can be yet.", TextsEdgesTest::promise20Yet);
        sentence(20, "NO: none.", TextsEdgesTest::promise20None);

        sentence(21, "How often refused: BAD (0)", TextsEdgesTest::promise21Bads);
        sentence(21, "NO (1)", TextsEdgesTest::promise21Nos);
        sentence(21, "FULL (2)", TextsEdgesTest::promise21Fulls);
        sentence(21, "bytes of THE TEXT (3)", TextsEdgesTest::promise21Bytes);
        sentence(21, "LINES (4)", TextsEdgesTest::promise21Lines);
        sentence(21, "STATES (5).", TextsEdgesTest::promise21States);
        sentence(21, "BAD.", TextsEdgesTest::promise21Bad);

        sentence(22, "h = 2531; then h = 31 h + v for each v", TextsEdgesTest::promise22WrapsAround);
        sentence(22, "told(0) to told(5)", TextsEdgesTest::promise22Told);
        sentence(22, "LINE by LINE of(0) to of(4)", TextsEdgesTest::promise22Lines);
        sentence(22, "NAME by NAME fine, coarse, group(1), group(2), points(2), seen(2)", TextsEdgesTest::promise22Names);
        sentence(22, "count(0) to count(4); misses(2).", TextsEdgesTest::promise22Counts);
        Check.end("TextsEdgesTest");
    }

    // ---- type

    private static void promise16Behind() {
        JoinedNames n = new JoinedNames();
        type(n, "a=b");
        due("too early yet", n.reads(), -13);
        n.type(';');
        due("the last byte is behind the others", n.reads(), 1);
        for (int c = 0; c <= 127; c++) {
            JoinedNames m = lines("a=b;");
            due("type(" + c + ")", m.type(c), 5);
            boolean begins = c >= 'a' && c <= 'j' || c == '*';
            due("reads behind type(" + c + ")", m.reads(), c == ' ' ? 1 : begins ? -15 : -14);
        }
    }

    private static void promise16HowMany() {
        JoinedNames n = new JoinedNames();
        for (int k = 1; k <= 120; k++) {
            due("type, the byte " + k, n.type(k), k);
        }
        due("told(3)", n.told(3), 120);
    }

    private static void promise16Bad() {
        dueRange("type", JoinedNames::new, JoinedNames::type, 0, 127);
        dueRange("type behind some", Edges::some, JoinedNames::type, 0, 127);
    }

    private static void promise16Full() {
        dueStays("the 121st byte", Edges::full, n -> n.type(' '), FULL);
        dueStays("the 121st byte, 0", Edges::full, n -> n.type(0), FULL);
        dueStays("the 121st byte, 127", Edges::full, n -> n.type(127), FULL);
        dueStays("the 121st byte, 128", Edges::full, n -> n.type(128), BAD);
        dueStays("the 121st byte, -1", Edges::full, n -> n.type(-1), BAD);
        JoinedNames n = full();
        n.type('a');
        n.type('b');
        due("FULL told twice", n.told(2), 2);
        n.clear();
        due("room behind clear", n.type('a'), 1);
        due("14 lines are no full text", lines(FOURTEEN).type('a'), 57);
    }

    // ---- clear

    private static void promise17Empty() {
        JoinedNames n = full();
        String lines = shown(n);
        n.clear();
        due("told(3)", n.told(3), 0);
        due("lines stay", n.told(4), 14);
        due("states stay", n.told(5), 5);
        dueLines("as they were", n, lines);
        due("reads of the empty text", n.reads(), 0);
        JoinedNames m = lines("a=b;");
        m.clear();
        m.type('c');
        due("nothing of the old text comes again", m.reads(), -11);
    }

    private static void promise17Had() {
        JoinedNames n = new JoinedNames();
        due("none", n.clear(), 0);
        n.type(0);
        due("one", n.clear(), 1);
        due("none again", n.clear(), 0);
        due("all 120", full().clear(), 120);
        dueStays("clear of an empty text", JoinedNames::new, JoinedNames::clear, 0);
        JoinedNames never = new JoinedNames();
        never.type(128);
        due("a refused byte is not there", never.clear(), 0);
    }

    // ---- reads

    private static void promise18Become() {
        JoinedNames n = full();
        due("none instead of 14", reads(n, ""), 0);
        dueLines("none", n, "");
        due("14 instead of none", reads(n, THIRTEEN + "*j=j;"), 14);
        dueLines("14", n, THIRTEEN + "*j=j;");
        due("one instead of 14", reads(n, "j=*a;"), 1);
        dueLines("one", n, "j=*a;");
        due("nothing is left of the others", n.of(1, 0), BAD);
        due("120 bytes", reads(n, " ".repeat(50) + "*a=j;".repeat(14)), 14);
        dueLines("of 120 bytes", n, "*a=j;".repeat(14));
    }

    private static void promise18TextStays() {
        JoinedNames n = lines("a=&b;");
        due("told(3)", n.told(3), 5);
        n.drops(0);
        due("reads again", n.reads(), 1);
        dueLines("of the same text", n, "a=&b;");
        type(n, "j");
        due("a text with a FAULT", n.reads(), -16);
        due("stays, too", n.told(3), 6);
        type(n, "=a;");
        due("and can be ended", n.reads(), 2);
    }

    private static void promise18HowMany() {
        for (int size = 0; size <= 14; size++) {
            due("reads of " + size, lines("a=*b;".repeat(size)).reads(), size);
        }
        due("one more", reads(new JoinedNames(), "a=*b;".repeat(15)), -80);
    }

    private static void promise18State() {
        JoinedNames n = lines("a=b;");
        due("one state", n.told(5), 1);
        n.reads();
        due("one more, though nothing changes", n.told(5), 2);
        n.type('k');
        n.reads();
        due("no more by a FAULT", n.told(5), 2);
        due("reads of none leaves one", lines("").told(5), 1);
        n.back();
        dueLines("behind back", n, "a=b;");
        n.back();
        dueLines("behind back twice", n, "");
    }

    private static void promise18Fault() {
        due("the least FAULT, 0", reads(new JoinedNames(), ";"), -10);
        due("1", reads(new JoinedNames(), "ab"), -11);
        due("119, the last byte", reads(new JoinedNames(), " ".repeat(119) + "k"), -129);
        due("120, too early", reads(new JoinedNames(), " ".repeat(119) + "a"), -130);
        due("no FAULT at 120", reads(new JoinedNames(), " ".repeat(120)), 0);
        for (int k = 0; k < 120; k++) {
            due("FAULT at " + k, reads(new JoinedNames(), " ".repeat(k) + "="), -10 - k);
        }
    }

    private static void promise18AllStays() {
        dueStays("reads of some", Edges::some, JoinedNames::reads, -14);
        dueStays("a FAULT at the first byte", () -> typed(some(), ";"), JoinedNames::reads, -10);
        dueStays("a FAULT behind a good line", () -> typed(some(), "a=b;k"), JoinedNames::reads, -14);
        dueStays("a FAULT of the 15th line", () -> typed(some(), FOURTEEN + "c=d;"), JoinedNames::reads, -66);
        dueStays("a text that ends too early", () -> typed(some(), "a=b;c=d"), JoinedNames::reads, -17);
        dueStays("a FAULT in a new object", () -> typed(new JoinedNames(), "*"), JoinedNames::reads, -11);
        dueStays("a FAULT in a full one", () -> typed(full(), THIRTEEN + "j"), JoinedNames::reads, -63);
    }

    private static JoinedNames typed(JoinedNames n, String text) {
        n.clear();
        type(n, text);
        return n;
    }

    // ---- shown

    private static void promise19Byte() {
        String want = "a=&j;j=a;a=*j;*j=a;";
        JoinedNames n = lines(" a = & j ; j = a ; a = * j ; * j = a ; ");
        for (int k = 0; k < want.length(); k++) {
            due("shown(" + k + ")", n.shown(k), want.charAt(k));
        }
        JoinedNames m = new JoinedNames();
        m.line(0, A, J);
        m.line(1, J, A);
        m.line(2, A, J);
        m.line(3, J, A);
        dueLines("of line", m, want);
        JoinedNames most = lines("*j=a;".repeat(14));
        due("the first of 70", most.shown(0), '*');
        due("the last of 70", most.shown(69), ';');
    }

    private static void promise19HowMany() {
        due("no lines", new JoinedNames().shown(NONE), 0);
        due("one of sort 0", lines("a=&b;").shown(NONE), 5);
        due("one of sort 1", lines("a=b;").shown(NONE), 4);
        due("one of sort 2", lines("a=*b;").shown(NONE), 5);
        due("one of sort 3", lines("*a=b;").shown(NONE), 5);
        due("14 of sort 1", lines(FOURTEEN).shown(NONE), 56);
        due("14 of sort 3", lines("*a=b;".repeat(14)).shown(NONE), 70);
        due("14 of sort 0", lines("a=&b;".repeat(14)).shown(NONE), 70);
    }

    private static void promise19NotSoMany() {
        due("of none, 0", new JoinedNames().shown(0), -5);
        due("of none, the largest", new JoinedNames().shown(MOST), -5);
        due("of 4, 3", lines("a=b;").shown(3), ';');
        due("of 4, 4", lines("a=b;").shown(4), -5);
        due("of 70, 69", lines("a=&b;".repeat(14)).shown(69), ';');
        due("of 70, 70", lines("a=&b;".repeat(14)).shown(70), -5);
        due("of 70, the largest", lines("a=&b;".repeat(14)).shown(MOST), -5);
        dueStays("-5 is not refused", Edges::some, n -> n.shown(15), -5);
        dueStays("-5 of the largest is not refused", Edges::full, n -> n.shown(MOST), -5);
    }

    private static void promise19Bad() {
        dueRange("shown of none", JoinedNames::new, JoinedNames::shown, -1, MOST);
        dueRange("shown of some", Edges::some, JoinedNames::shown, -1, MOST);
        dueRange("shown of 14", Edges::full, JoinedNames::shown, -1, MOST);
    }

    // ---- back

    private static void promise20Back() {
        JoinedNames n = new JoinedNames();
        n.line(0, A, J);
        n.line(3, J, A);
        n.drops(0);
        n.moves(0, 0);
        reads(n, FOURTEEN);
        String[] was = {"*j=a;", "*j=a;", "a=&j;*j=a;", "a=&j;", ""};
        for (int k = 0; k < was.length; k++) {
            n.back();
            dueLines("behind back " + k, n, was[k]);
        }
        due("the text is not taken back", n.told(3), 56);
        n.line(1, C, D);
        n.back();
        dueLines("back of a line behind back", n, "");
        JoinedNames m = full();
        m.type(0);
        m.back();
        due("how often FULL is not taken back", m.told(2), 1);
    }

    private static void promise20Yet() {
        JoinedNames n = new JoinedNames();
        n.line(0, A, A);
        due("of one", n.back(), 0);
        JoinedNames full = full();
        for (int left = 4; left >= 0; left--) {
            due("of five", full.back(), left);
        }
        full.moves(0, 0);
        full.moves(0, 0);
        due("of two behind five", full.back(), 1);
    }

    private static void promise20None() {
        dueStays("of a new object", JoinedNames::new, JoinedNames::back, NO);
        dueStays("behind all five", TextsEdgesTest::drained, JoinedNames::back, NO);
        JoinedNames n = drained();
        n.back();
        n.back();
        due("NO told twice", n.told(1), 2);
        n.line(4, 0, 0);
        due("a refused line is none to go back", n.back(), NO);
        n.drops(0);
        due("one again", n.back(), 0);
    }

    private static JoinedNames drained() {
        JoinedNames n = full();
        for (int k = 0; k < 5; k++) {
            n.back();
        }
        return n;
    }

    // ---- told

    private static void promise21Bads() {
        JoinedNames n = new JoinedNames();
        for (int k = 0; k < 511; k++) {
            n.fine(10);
        }
        due("511, as the 512th call", n.told(0), 511);
        JoinedNames m = new JoinedNames();
        m.told(6);
        due("told refused counts, too", m.told(0), 1);
        dueEachRefusedOnce();
    }

    /** Each call that can be BAD adds one. */
    private static void dueEachRefusedOnce() {
        JoinedNames n = some();
        int[] answers = {n.line(4, 0, 0), n.drops(3), n.moves(0, 3), n.of(0, 5), n.clash(0, 0), n.fine(10),
            n.coarse(10), n.group(0, 3), n.count(5), n.alias(0, 0, 2), n.without(0, 0, 2), n.points(10, 0),
            n.seen(10, 0), n.misses(10), n.type(128), n.shown(-2), n.told(6)};
        for (int answer : answers) {
            due("refused", answer, BAD);
        }
        due("each counted once", n.told(0), 1 + answers.length);
        due("not as NO", n.told(1), 1);
        due("not as FULL", n.told(2), 0);
    }

    private static void promise21Nos() {
        JoinedNames n = new JoinedNames();
        for (int k = 0; k < 511; k++) {
            n.back();
        }
        due("511, as the 512th call", n.told(1), 511);
        JoinedNames m = some();
        m.back();
        due("not by a back that is not refused", m.told(1), 1);
        for (int k = 0; k < 3; k++) {
            m.back();
        }
        due("by one that is", m.told(1), 2);
        due("not as BAD", m.told(0), 1);
        due("not as FULL", m.told(2), 0);
    }

    private static void promise21Fulls() {
        JoinedNames n = new JoinedNames();
        for (int k = 0; k < 511; k++) {
            n.type(' ');
        }
        due("391 behind 120, as the 512th call", n.told(2), 391);
        JoinedNames m = full();
        due("not yet by being full", m.told(2), 0);
        m.line(0, A, A);
        due("by a line", m.told(2), 1);
        m.type(' ');
        due("by a byte", m.told(2), 2);
        due("not as BAD", m.told(0), 0);
        due("not as NO", m.told(1), 0);
    }

    private static void promise21Bytes() {
        JoinedNames n = new JoinedNames();
        due("none", n.told(3), 0);
        for (int k = 0; k < 120; k++) {
            n.type(k);
        }
        due("all 120", n.told(3), 120);
        n.type(0);
        due("no more", n.told(3), 120);
        n.clear();
        due("none again", n.told(3), 0);
    }

    private static void promise21Lines() {
        JoinedNames n = new JoinedNames();
        due("none", n.told(4), 0);
        for (int i = 0; i < 14; i++) {
            n.line(0, A, A);
            due("lines", n.told(4), i + 1);
        }
        n.line(0, A, A);
        due("no more", n.told(4), 14);
        n.drops(0);
        due("behind drops", n.told(4), 13);
        n.back();
        due("behind back", n.told(4), 14);
        n.reads();
        due("none behind reads of none", n.told(4), 0);
    }

    private static void promise21States() {
        JoinedNames n = new JoinedNames();
        due("none", n.told(5), 0);
        for (int k = 1; k <= 8; k++) {
            n.reads();
            due("states", n.told(5), Math.min(5, k));
        }
        n.back();
        due("behind back", n.told(5), 4);
        due("all backs", n.back() + n.back() + n.back() + n.back(), 3 + 2 + 1);
        due("none left", n.told(5), 0);
        n.back();
        due("none yet", n.told(5), 0);
    }

    private static void promise21Bad() {
        dueRange("told", JoinedNames::new, JoinedNames::told, 0, 5);
        dueRange("told of some", Edges::some, JoinedNames::told, 0, 5);
        dueRange("told of full", Edges::full, JoinedNames::told, 0, 5);
    }

    // ---- digest

    private static void promise22WrapsAround() {
        BigInteger h = BigInteger.valueOf(2531);
        for (int v : partsOf(full())) {
            h = h.multiply(BigInteger.valueOf(31)).add(BigInteger.valueOf(v));
        }
        due("it is far beyond a long", h.bitLength() > 64 ? 1 : 0, 1);
        due("its last 64 bits", full().digest(), h.longValue());
        due("of a new object", new JoinedNames().digest(), mixed(partsOfNew()));
        dueStays("digest", Edges::full, n -> (int) (n.digest() & 0), 0);
        dueStays("digest of a new object", JoinedNames::new, n -> (int) (n.digest() & 0), 0);
    }

    /** The parts as a new object must have them, told one by one. */
    private static List<Integer> partsOfNew() {
        List<Integer> parts = new ArrayList<>(List.of(0, 0, 0, 0, 0, 0));
        for (int x = 0; x < 10; x++) {
            parts.addAll(List.of(0, 0, x, -1, -1, 0));
        }
        parts.addAll(List.of(10, 0, 0, 0, 0, 0));
        return parts;
    }

    private static void promise22Told() {
        JoinedNames n = full();
        for (int k = 0; k < 3; k++) {
            n.fine(10);
        }
        n.line(0, A, A);
        n.type(0);
        due("with 3 BAD and 2 FULL", n.digest(), mixed(partsOf(n)));
        for (int k = 0; k < 7; k++) {
            n.back();
        }
        due("with 2 NO, too", n.digest(), mixed(partsOf(n)));
        due("a question that is answered changes it not", n.digest(), n.digest());
        long before = n.digest();
        n.fine(-1);
        due("a refused one does", before == n.digest() ? 1 : 0, 0);
    }

    private static void promise22Lines() {
        due("of one line", lines("*a=j;").digest(), mixed(partsOf(lines("*a=j;"))));
        due("of 14 lines", full().digest(), mixed(partsOf(full())));
        JoinedNames n = full();
        n.clear();
        n.reads();
        due("of no line behind 14", n.digest(), mixed(partsOf(n)));
        JoinedNames order = lines("a=&b;c=&d;");
        long before = order.digest();
        order.moves(0, 1);
        order.back();
        due("the same lines again", order.digest(), before);
    }

    private static void promise22Names() {
        JoinedNames third = lines("c=b;b=a;a=&a;");
        due("two rounds, not three", third.digest(), mixed(partsOf(third)));
        JoinedNames all = lines(allOf('a') + "*a=a;");
        due("all sets full", all.digest(), mixed(partsOf(all)));
        JoinedNames selves = lines("a=&a;j=&j;");
        due("the first and the last name", selves.digest(), mixed(partsOf(selves)));
    }

    private static void promise22Counts() {
        JoinedNames most = lines("a=*b;".repeat(14));
        due("28 misses", most.misses(2), 28);
        due("with the misses of two rounds", most.digest(), mixed(partsOf(most)));
        JoinedNames one = lines(allOf('a'));
        due("one group that points to itself", one.digest(), mixed(partsOf(one)));
    }
}
