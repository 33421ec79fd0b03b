import java.util.ArrayList;
import java.util.Arrays;
import java.util.Collections;
import java.util.List;
import java.util.Random;

/**
 * FINE and COARSE by the document's words alone: all sets, all groupings with all pointings of a few
 * names are gone through, those that do what the lines ask are kept, and of these the least is due.
 * So no way of reaching it is shared with the class.
 */
public final class DefinitionTest extends Edges {
    /** A grouping of the few names, by number of group, and where each group points (or NONE). */
    private record Grouping(int[] groups, int[] targets) {
    }

    private static final Random RANDOM = new Random(8);

    public static void main(String[] args) {
        term("7", "the least sets, all together, so that", DefinitionTest::leastSets);
        term("8 to 10", "the finest grouping, with the fewest pointings, such that (there is just one)",
            DefinitionTest::finestGroupings);
        Check.end("DefinitionTest");
    }

    // ---- programs: each line is {sort, x, y}, with x and y below the number of names

    private static List<int[]> allLines(int names) {
        List<int[]> lines = new ArrayList<>();
        for (int code = 0; code < 4 * names * names; code++) {
            lines.add(new int[] {code / names / names, code / names % names, code % names});
        }
        return lines;
    }

    /** All programs of no line, one and two lines. */
    private static List<List<int[]>> shortPrograms(int names) {
        List<List<int[]>> programs = new ArrayList<>();
        programs.add(List.of());
        for (int[] first : allLines(names)) {
            programs.add(List.of(first));
            for (int[] second : allLines(names)) {
                programs.add(List.of(first, second));
            }
        }
        return programs;
    }

    private static List<List<int[]>> somePrograms(int names, int howMany) {
        List<int[]> all = allLines(names);
        List<List<int[]>> programs = new ArrayList<>();
        for (int k = 0; k < howMany; k++) {
            List<int[]> program = new ArrayList<>();
            for (int size = 3 + RANDOM.nextInt(12); size > 0; size--) {
                // Without a good deal of x = & y no name may point anywhere.
                int bound = RANDOM.nextInt(3) == 0 ? names * names : all.size();
                program.add(all.get(RANDOM.nextInt(bound)));
            }
            programs.add(program);
        }
        return programs;
    }

    /** Which of the ten names stand for the few: other ones each time, in any order. */
    private static List<Integer> someNames() {
        List<Integer> names = new ArrayList<>();
        for (int x = 0; x < 10; x++) {
            names.add(x);
        }
        Collections.shuffle(names, RANDOM);
        return names;
    }

    private static JoinedNames made(List<int[]> program, List<Integer> names) {
        JoinedNames n = new JoinedNames();
        for (int[] l : program) {
            n.line(l[0], names.get(l[1]), names.get(l[2]));
        }
        return n;
    }

    private static int renamed(int set, List<Integer> names) {
        int bits = 0;
        for (int z = 0; z < 10; z++) {
            bits |= (set >> z & 1) << names.get(z);
        }
        return bits;
    }

    // ---- the least sets

    private static void leastSets() {
        checkSets(3, shortPrograms(3));
        checkSets(3, somePrograms(3, 3000));
        checkSets(4, somePrograms(4, 150));
    }

    private static void checkSets(int few, List<List<int[]>> programs) {
        for (List<int[]> program : programs) {
            int[] least = leastSetsOf(few, program);
            List<Integer> names = someNames();
            JoinedNames n = made(program, names);
            String text = shown(n);
            for (int x = 0; x < 10; x++) {
                int want = x < few ? renamed(least[x], names) : 0;
                due("fine(" + names.get(x) + ") in " + text, n.fine(names.get(x)), want);
            }
        }
    }

    /** What all sets that do as asked have together; it must do as asked itself. */
    private static int[] leastSetsOf(int few, List<int[]> program) {
        int common = (1 << few * few) - 1;
        for (int code = 0; code < 1 << few * few; code++) {
            if (setsFit(setsOf(few, code), program)) {
                common &= code;
            }
        }
        int[] least = setsOf(few, common);
        due("there are least sets", setsFit(least, program) ? 1 : 0, 1);
        return least;
    }

    private static int[] setsOf(int few, int code) {
        int[] sets = new int[few];
        for (int x = 0; x < few; x++) {
            sets[x] = code >> few * x & (1 << few) - 1;
        }
        return sets;
    }

    private static boolean setsFit(int[] sets, List<int[]> program) {
        for (int[] l : program) {
            if (!setsFit(sets, l[0], l[1], l[2])) {
                return false;
            }
        }
        return true;
    }

    private static boolean setsFit(int[] sets, int sort, int x, int y) {
        if (sort == 0) {
            return (sets[x] >> y & 1) == 1;
        }
        if (sort == 1) {
            return hasAll(sets[x], sets[y]);
        }
        for (int z = 0; z < sets.length; z++) {
            if (sort == 2 && (sets[y] >> z & 1) == 1 && !hasAll(sets[x], sets[z])
                || sort == 3 && (sets[x] >> z & 1) == 1 && !hasAll(sets[z], sets[y])) {
                return false;
            }
        }
        return true;
    }

    private static boolean hasAll(int set, int part) {
        return (set & part) == part;
    }

    // ---- the finest grouping

    private static void finestGroupings() {
        checkGroupings(3, shortPrograms(3));
        checkGroupings(3, somePrograms(3, 3000));
        checkGroupings(4, somePrograms(4, 1000));
        checkGroupings(5, somePrograms(5, 300));
    }

    private static void checkGroupings(int few, List<List<int[]>> programs) {
        List<Grouping> all = allGroupings(few);
        for (List<int[]> program : programs) {
            Grouping finest = finestOf(all, program);
            List<Integer> names = someNames();
            checkGrouping(few, finest, names, made(program, names));
        }
    }

    private static void checkGrouping(int few, Grouping finest, List<Integer> names, JoinedNames n) {
        String text = shown(n);
        for (int x = 0; x < 10; x++) {
            // A name that stands in no line is alone and points nowhere: all else would be coarser, or more.
            int group = x < few ? membersOf(finest, finest.groups[x]) : 1 << x;
            int target = x < few ? finest.targets[finest.groups[x]] : NONE;
            int own = renamed(group, names);
            int pointed = target == NONE ? 0 : renamed(membersOf(finest, target), names);
            int name = names.get(x);
            due("group(" + name + ", 0) in " + text, n.group(name, 0), own);
            due("group(" + name + ", 1) in " + text, n.group(name, 1), Integer.numberOfTrailingZeros(own));
            due("group(" + name + ", 2) in " + text, n.group(name, 2), target == NONE ? NONE : Integer.numberOfTrailingZeros(pointed));
            due("coarse(" + name + ") in " + text, n.coarse(name), pointed);
        }
        int groups = countOf(finest.groups);
        due("count(0) in " + text, n.count(0), groups + 10 - few);
        due("count(1) in " + text, n.count(1), pointings(finest));
    }

    private static int membersOf(Grouping g, int group) {
        int members = 0;
        for (int x = 0; x < g.groups.length; x++) {
            members |= g.groups[x] == group ? 1 << x : 0;
        }
        return members;
    }

    private static int countOf(int[] groups) {
        return Arrays.stream(groups).max().getAsInt() + 1;
    }

    private static int pointings(Grouping g) {
        int sum = 0;
        for (int target : g.targets) {
            sum += target == NONE ? 0 : 1;
        }
        return sum;
    }

    private static List<Grouping> allGroupings(int few) {
        List<int[]> partitions = new ArrayList<>();
        addPartitions(new int[few], 0, 0, partitions);
        List<Grouping> all = new ArrayList<>();
        for (int[] groups : partitions) {
            addPointings(groups, new int[countOf(groups)], 0, all);
        }
        return all;
    }

    /** Groups are numbered as they come, so that no partition comes twice. */
    private static void addPartitions(int[] groups, int x, int used, List<int[]> all) {
        if (x == groups.length) {
            all.add(groups.clone());
            return;
        }
        for (int group = 0; group <= used; group++) {
            groups[x] = group;
            addPartitions(groups, x + 1, Math.max(used, group + 1), all);
        }
    }

    private static void addPointings(int[] groups, int[] targets, int group, List<Grouping> all) {
        if (group == targets.length) {
            all.add(new Grouping(groups, targets.clone()));
            return;
        }
        for (int target = NONE; target < targets.length; target++) {
            targets[group] = target;
            addPointings(groups, targets, group + 1, all);
        }
    }

    private static Grouping finestOf(List<Grouping> all, List<int[]> program) {
        List<Grouping> fitting = new ArrayList<>(all);
        fitting.removeIf(g -> !groupingFits(g, program));
        int most = fitting.stream().mapToInt(g -> g.targets.length).max().getAsInt();
        List<Grouping> finest = new ArrayList<>(fitting);
        finest.removeIf(g -> g.targets.length < most);
        int fewest = finest.stream().mapToInt(DefinitionTest::pointings).min().getAsInt();
        finest.removeIf(g -> pointings(g) > fewest);
        due("there is just one", finest.size(), 1);
        Grouping least = finest.get(0);
        boolean finer = fitting.stream().allMatch(g -> isFiner(least.groups, g.groups));
        due("it is finer than all others", finer ? 1 : 0, 1);
        return least;
    }

    private static boolean isFiner(int[] fine, int[] coarse) {
        for (int x = 0; x < fine.length; x++) {
            for (int y = 0; y < x; y++) {
                if (fine[x] == fine[y] && coarse[x] != coarse[y]) {
                    return false;
                }
            }
        }
        return true;
    }

    private static boolean groupingFits(Grouping g, List<int[]> program) {
        for (int[] l : program) {
            if (!lineFits(g.targets, l[0], g.groups[l[1]], g.groups[l[2]])) {
                return false;
            }
        }
        return true;
    }

    /** Of the groups that x and y are in. */
    private static boolean lineFits(int[] targets, int sort, int x, int y) {
        int behindX = targets[x];
        int behindY = targets[y];
        if (sort == 0) {
            return behindX == y;
        }
        if (sort == 1) {
            return behindY == NONE || behindX == behindY;
        }
        if (sort == 2) {
            return behindY == NONE || targets[behindY] == NONE || behindX == targets[behindY];
        }
        return behindX == NONE || behindY == NONE || targets[behindX] == behindY;
    }
}
