/** Promises 12 to 17: MEANINGS, SENTENCES, WORLDS. */
public final class MeaningsTest {
    private static final Check c = new Check();
    private static final int ALL = 0, SOME = 1, NO = 2;

    public static void main(String[] args) {
        mean();
        sentence();
        sentencesAreRefused();
        sentencesAreFull();
        world();
        isTrue();
        allClausesMustBeTrue();
        meaningsThatShut();
        differ();
        worlds();
        c.end("MeaningsTest");
    }

    private static MadeTongue withRoots() {
        MadeTongue x = new MadeTongue();
        c.root(x, 0, 0, "a");
        c.root(x, 0, 0, "b");
        c.root(x, 0, 0, "c");
        return x;
    }

    private static void mean() {
        MadeTongue x = withRoots();
        c.due("12 at first", x.mean(0, 0, 15, 0), 0);
        c.due("12 what it was", x.mean(0, 0, 3, 12), 240);
        c.due("12 what it was then", x.mean(0, 0, 0, 15), 60);
        c.due("12 both sets may share", x.mean(0, 0, 15, 15), 15);
        c.due("12 another club", x.mean(3, 0, 1, 0), 0);
        c.due("12 another root", x.mean(0, 2, 1, 0), 0);
        c.due("12 root", x.mean(9, 3, 16, 16), Check.UNKNOWN);
        c.due("12 root below", x.mean(0, -1, 0, 0), Check.UNKNOWN);
        for (int bad : new int[] {-1, 4, Integer.MAX_VALUE, Integer.MIN_VALUE}) c.due("12 club", x.mean(bad, 0, 0, 0), Check.OUTSIDE);
        for (int bad : new int[] {-1, 16, Integer.MAX_VALUE, Integer.MIN_VALUE}) {
            c.due("12 has", x.mean(0, 0, bad, 0), Check.OUTSIDE);
            c.due("12 not", x.mean(0, 0, 0, bad), Check.OUTSIDE);
        }
        c.due("12 refusals changed nothing", x.mean(0, 0, 0, 0), 255);
    }

    private static void sentence() {
        MadeTongue x = withRoots();
        c.due("13 one clause", c.sentence(x, ALL, 0, 1), 0);
        c.due("13 four clauses", c.sentence(x, ALL, 0, 1, SOME, 1, 2, NO, 2, 2, ALL, 0, 0), 1);
        c.lay(x, 0, 0, 9, 9, SOME, 2, 1, 9);
        c.due("13 from the middle", x.sentence(0, 0, 2, 1), 2);
        c.due("13 no clause", c.sentence(x), Check.OUTSIDE);
        c.due("13 five clauses", c.sentence(x, new int[15]), Check.OUTSIDE);
        c.due("13 sort", c.sentence(x, 3, 0, 0), Check.OUTSIDE);
        c.due("13 sort below", c.sentence(x, -1, 0, 0), Check.OUTSIDE);
        c.due("13 first root", c.sentence(x, ALL, 3, 0), Check.UNKNOWN);
        c.due("13 second root", c.sentence(x, ALL, 0, -1), Check.UNKNOWN);
        c.due("13 a later sort ahead of a root", c.sentence(x, ALL, 9, 9, 3, 0, 0), Check.OUTSIDE);
        c.due("13 a later root", c.sentence(x, ALL, 0, 0, ALL, 0, 3), Check.UNKNOWN);
        c.due("13 many", x.many(3), 3);
    }

    private static void sentencesAreRefused() {
        MadeTongue x = withRoots();
        c.due("13 sheet", x.sentence(4, 9, 0, 1), Check.UNKNOWN);
        c.due("13 lane", x.sentence(0, 3, 0, 1), Check.OUTSIDE);
        c.due("13 null", x.sentence(0, 0, 0, -1), Check.NULL);
        c.lay(x, 0, 2, new int[9]);
        c.due("13 cast", x.sentence(0, 0, 0, -1), Check.CAST);
        c.due("13 size", x.sentence(0, 2, 99, -1), Check.SIZE);
        c.due("13 index", x.sentence(0, 2, 1, 3), Check.INDEX);
        c.due("13 index below", x.sentence(0, 2, -1, 1), Check.INDEX);
        c.due("13 index, none taken", x.sentence(0, 2, 10, 0), Check.INDEX);
        c.due("13 fault", x.fault(), 3);
        c.due("13 at the end, none taken", x.sentence(0, 2, 9, 0), Check.OUTSIDE);
        c.due("13 fault then", x.fault(), 0);
        // Three times these would wrap to a small number of cells.
        for (int n : new int[] {Integer.MAX_VALUE, 1431655766, 715827883, 1431655765}) {
            c.due("13 three times " + n, x.sentence(0, 2, 0, n), Check.INDEX);
        }
        c.due("13 all nine cells", x.sentence(0, 2, 0, 3), 0);
        c.due("13 the last six", x.sentence(0, 2, 3, 2), 1);
    }

    private static void sentencesAreFull() {
        MadeTongue x = withRoots();
        for (int k = 0; k < 10; k++) c.due("13 sentence " + k, c.sentence(x, ALL, 0, 1), k);
        c.due("13 full", c.sentence(x, ALL, 0, 1), Check.FULL);
        c.due("13 unknown ahead of full", c.sentence(x, ALL, 0, 7), Check.UNKNOWN);
        c.due("13 many", x.many(3), 10);
    }

    private static void world() {
        MadeTongue x = new MadeTongue();
        int[][] due = {{0, -9, -9, -9}, {1, 0, -9, -9}, {16, 15, -9, -9}, {17, 0, 0, -9}, {18, 0, 1, -9}, {32, 0, 15, -9},
            {33, 1, 1, -9}, {152, 15, 15, -9}, {153, 0, 0, 0}, {154, 0, 0, 1}, {168, 0, 0, 15}, {169, 0, 1, 1}, {288, 0, 15, 15},
            {289, 1, 1, 1}, {967, 14, 15, 15}, {968, 15, 15, 15}};
        for (int[] at : due) {
            for (int k = 0; k < 3; k++) c.due("14 world " + at[0] + " " + k, x.world(at[0], k), at[k + 1]);
        }
        for (int bad : new int[] {-1, 969, Integer.MAX_VALUE, Integer.MIN_VALUE}) c.due("14 world", x.world(bad, 0), Check.OUTSIDE);
        for (int bad : new int[] {-1, 3, Integer.MAX_VALUE, Integer.MIN_VALUE}) c.due("14 k", x.world(0, bad), Check.OUTSIDE);
    }

    private static void isTrue() {
        MadeTongue x = withRoots();
        x.mean(1, 0, 1, 0);
        x.mean(1, 1, 2, 0);
        c.sentence(x, ALL, 0, 1);
        c.sentence(x, SOME, 0, 1);
        c.sentence(x, NO, 0, 1);
        // By THINGS: none, {}, {0}, {1}, {0,1}; then {0} with {0,1}, and {} with {0,1}.
        int[] worlds = {0, 1, 2, 3, 4, worldOf(1, 3), worldOf(0, 3)};
        int[][] due = {{1, 1, 0, 1, 1, 0, 1}, {0, 0, 0, 0, 1, 1, 1}, {1, 1, 1, 1, 0, 0, 0}};
        for (int s = 0; s < 3; s++) {
            for (int k = 0; k < worlds.length; k++) c.due("15 " + s + " in " + worlds[k], x.isTrue(s, 1, worlds[k]), due[s][k]);
        }
        c.due("15 another club takes all for both", x.isTrue(0, 0, 2), 1);
        c.due("15 some, for it", x.isTrue(1, 0, 2), 1);
        c.due("15 sentence", x.isTrue(3, 9, 9999), Check.UNKNOWN);
        c.due("15 sentence below", x.isTrue(-1, 0, 0), Check.UNKNOWN);
        for (int bad : new int[] {-1, 4}) c.due("15 club", x.isTrue(0, bad, 0), Check.OUTSIDE);
        for (int bad : new int[] {-1, 969}) c.due("15 world", x.isTrue(0, 0, bad), Check.OUTSIDE);
    }

    private static int worldOf(int a, int b) {
        int number = 17;
        for (int first = 0; first < a; first++) number += 16 - first;
        return number + b - a;
    }

    private static void allClausesMustBeTrue() {
        MadeTongue x = withRoots();
        x.mean(0, 0, 1, 0);
        x.mean(0, 1, 2, 0);
        c.sentence(x, SOME, 0, 0, NO, 0, 1);
        c.due("15 neither", x.isTrue(0, 0, 0), 0);
        c.due("15 both", x.isTrue(0, 0, 2), 1);
        c.due("15 the second not", x.isTrue(0, 0, 4), 0);
        c.due("15 the first not", x.isTrue(0, 0, 3), 0);
    }

    private static void meaningsThatShut() {
        MadeTongue x = withRoots();
        x.mean(0, 0, 4, 4);
        c.sentence(x, SOME, 0, 0);
        c.sentence(x, ALL, 1, 0);
        c.due("12 nothing has a feature and has it not", x.worlds(0, 0), 0);
        c.due("12 all are it in no world but the empty one", x.worlds(1, 0), 1);
        x.mean(0, 0, 4, 8);
        c.due("15 {2}", x.isTrue(0, 0, 1 + 4), 1);
        c.due("15 {2, 3}", x.isTrue(0, 0, 1 + 12), 0);
        c.due("15 {1, 2}", x.isTrue(0, 0, 1 + 6), 1);
        c.due("15 {3}", x.isTrue(0, 0, 1 + 8), 0);
    }

    private static void differ() {
        MadeTongue x = withRoots();
        c.sentence(x, SOME, 0, 1);
        c.due("16 alike at first", x.differ(0, 0, 1), Check.NONE);
        x.mean(1, 0, 0, 1);
        c.due("16 {0} is none for 1", x.differ(0, 0, 1), 2);
        c.due("16 not the other way", x.differ(0, 1, 0), Check.NONE);
        x.mean(0, 1, 8, 0);
        c.due("16 for 0 it must have 3", x.differ(0, 0, 1), 10);
        c.due("16 for 1 it may have none", x.differ(0, 1, 0), 1);
        c.due("16 a club from itself", x.differ(0, 0, 0), Check.NONE);
        c.sentence(x, SOME, 0, 0, SOME, 2, 1);
        x.mean(2, 0, 0, 8);
        x.mean(2, 1, 8, 0);
        c.due("16 two things are needed", x.differ(1, 2, 0), Check.NONE);
        x.mean(0, 2, 15, 0);
        c.due("16 {} with {3}", x.differ(1, 2, 0), worldOf(0, 8));
        c.due("16 sentence", x.differ(2, 9, 9), Check.UNKNOWN);
        for (int bad : new int[] {-1, 4, Integer.MIN_VALUE}) {
            c.due("16 club", x.differ(0, bad, 0), Check.OUTSIDE);
            c.due("16 other", x.differ(0, 0, bad), Check.OUTSIDE);
        }
    }

    private static void worlds() {
        MadeTongue x = withRoots();
        c.sentence(x, ALL, 0, 1);
        c.sentence(x, SOME, 0, 1);
        c.sentence(x, NO, 0, 1);
        c.due("17 all are all", x.worlds(0, 2), 969);
        c.due("17 some, but not in the empty one", x.worlds(1, 2), 968);
        c.due("17 none, in the empty one", x.worlds(2, 2), 1);
        x.mean(2, 1, 1, 0);
        // Eight of the 16 THINGS are left: worlds of them are 1 + 8 + 36 + 120.
        c.due("17 all of eight", x.worlds(0, 2), 165);
        c.due("17 some of eight", x.worlds(1, 2), 969 - 165);
        c.due("17 none of eight", x.worlds(2, 2), 165);
        c.due("17 sentence", x.worlds(3, 9), Check.UNKNOWN);
        for (int bad : new int[] {-1, 4}) c.due("17 club", x.worlds(0, bad), Check.OUTSIDE);
    }
}
