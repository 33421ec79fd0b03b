import java.util.Random;

/** Long mixed runs of calls, the same each time, on the class and on the model side by side. */
public final class ModelTest {
    private static final int RUNS = 400;
    private static final int CALLS = 512;
    private static final int MOST_OF_A_STEP = 3;
    private static final int MOST_OF_A_TEXT = 100;
    private static final int[] ODD = {Integer.MIN_VALUE, -3, -2, -1, 10, 14, 128, Integer.MAX_VALUE};

    private final Random random;
    private final JoinedNames real = new JoinedNames();
    private final Model model = new Model();
    private final int names;
    private final String where;
    private int calls;

    private ModelTest(int run) {
        random = new Random(run);
        // Few names make lines meet often, ten let them keep apart.
        names = 3 + run % 8;
        where = "run " + run + ": ";
    }

    public static void main(String[] args) {
        for (int run = 0; run < RUNS && !Check.anyWrong(); run++) {
            new ModelTest(run).play();
        }
        Check.end("ModelTest");
    }

    /** No object is asked more often than the document tells; the last call is a digest. */
    private void play() {
        while (calls + MOST_OF_A_STEP < CALLS && !Check.anyWrong()) {
            if (calls + MOST_OF_A_TEXT < CALLS && random.nextInt(60) == 0) {
                typeText();
            } else {
                step(random.nextInt(24));
            }
        }
        due("digest()", real.digest(), model.digest());
    }

    private void due(String call, long got, long want) {
        calls++;
        Check.due(where + "[" + model.written() + "] " + call, got, want);
    }

    /** A number below a bound, now and then another one. */
    private int number(int bound) {
        return random.nextInt(40) == 0 ? ODD[random.nextInt(ODD.length)]
            : random.nextInt(30) == 0 ? bound : random.nextInt(Math.max(1, bound));
    }

    private int name() {
        return random.nextInt(60) == 0 ? number(10) : random.nextInt(names);
    }

    private int place() {
        return number(model.told(4));
    }

    private void step(int kind) {
        int a = place();
        int b = place();
        int x = name();
        int y = name();
        int sort = number(4);
        switch (kind) {
            case 0, 1, 2, 3 -> due("line " + sort + " " + x + " " + y, real.line(sort, x, y), model.line(sort, x, y));
            case 4 -> due("drops " + a, real.drops(a), model.drops(a));
            case 5 -> due("moves " + a + " " + b, real.moves(a, b), model.moves(a, b));
            case 6 -> due("back", real.back(), model.back());
            case 7 -> due("digest", real.digest(), model.digest());
            case 8 -> askRuns(number(10), x);
            case 9 -> typeOne(number(128));
            default -> ask(kind, a, b, x, y);
        }
    }

    private void typeOne(int c) {
        due("type " + c, real.type(c), model.type(c));
    }

    private void askRuns(int n, int x) {
        due("points " + n + " " + x, real.points(n, x), model.points(n, x));
        due("seen " + n + " " + x, real.seen(n, x), model.seen(n, x));
        due("misses " + n, real.misses(n), model.misses(n));
    }

    private void ask(int kind, int a, int b, int x, int y) {
        int two = number(2);
        int three = number(3);
        int five = number(5);
        int six = number(6);
        int shown = number(model.written().length()) - 1;
        switch (kind) {
            case 10 -> due("of " + a + " " + five, real.of(a, five), model.of(a, five));
            case 11, 12 -> due("clash " + a + " " + b, real.clash(a, b), model.clash(a, b));
            case 13 -> due("fine " + x, real.fine(x), model.fine(x));
            case 14 -> due("coarse " + x, real.coarse(x), model.coarse(x));
            case 15, 16 -> due("group " + x + " " + three, real.group(x, three), model.group(x, three));
            case 17 -> due("count " + five, real.count(five), model.count(five));
            case 18 -> due("alias " + x + " " + y + " " + two, real.alias(x, y, two), model.alias(x, y, two));
            case 19, 20 -> due("without " + a + " " + x + " " + two, real.without(a, x, two), model.without(a, x, two));
            case 21 -> due("shown " + shown, real.shown(shown), model.shown(shown));
            case 22 -> due("told " + six, real.told(six), model.told(six));
            default -> due("reads", real.reads(), model.reads());
        }
    }

    /** A text of some lines, often with a byte that does not fit. */
    private void typeText() {
        String text = someText();
        if (random.nextInt(8) != 0) {
            due("clear", real.clear(), model.clear());
        }
        for (int k = 0; k < text.length(); k++) {
            typeOne(text.charAt(k));
        }
        due("reads '" + text + "'", real.reads(), model.reads());
    }

    private String someText() {
        String[] left = {"", "", "", "*"};
        String[] right = {"&", "", "*", ""};
        StringBuilder b = new StringBuilder();
        int size = random.nextInt(17);
        for (int i = 0; i < size; i++) {
            int sort = random.nextInt(4);
            b.append(left[sort]).append((char) ('a' + random.nextInt(names))).append('=');
            b.append(right[sort]).append((char) ('a' + random.nextInt(names))).append(';');
        }
        for (int blanks = random.nextInt(30); blanks > 20; blanks--) {
            b.insert(random.nextInt(b.length() + 1), ' ');
        }
        if (b.length() > 0 && random.nextInt(3) == 0) {
            b.setCharAt(random.nextInt(b.length()), "ajk`&*=; \t".charAt(random.nextInt(10)));
        }
        if (random.nextInt(6) == 0) {
            b.setLength(random.nextInt(b.length() + 1));
        }
        return b.toString();
    }
}
