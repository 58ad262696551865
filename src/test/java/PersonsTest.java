/** Promises 18 to 28: PERSONS, TONGUES, REFORMS, JOURNALS, MONTHS. */
public final class PersonsTest {
    private static final Check c = new Check();

    public static void main(String[] args) {
        person();
        tongue();
        easy();
        learn();
        knows();
        reform();
        reformIsRefused();
        journal();
        need();
        hearing();
        needLowered();
        forgetting();
        hearingKeeps();
        writersDoNotForget();
        knownAsTheMonthBegan();
        manyAtOnce();
        learnedAnew();
        eachByItself();
        spread();
        c.end("PersonsTest");
    }

    /** So many PERSONS of FIRST tongues 0, 1, 2, 3, 0 .., and ROOTS abc, ab, z. */
    private static MadeTongue with(int persons) {
        MadeTongue x = new MadeTongue();
        for (int p = 0; p < persons; p++) x.person(p % 4);
        c.root(x, 0, 0, "abc");
        c.root(x, 0, 0, "ab");
        c.root(x, 0, 0, "z");
        return x;
    }

    private static void person() {
        MadeTongue x = new MadeTongue();
        for (int bad : new int[] {-1, 4, Integer.MAX_VALUE, Integer.MIN_VALUE}) c.due("18 first", x.person(bad), Check.OUTSIDE);
        for (int p = 0; p < 12; p++) c.due("18 person " + p, x.person(p % 4), p);
        c.due("18 full", x.person(0), Check.FULL);
        c.due("18 outside ahead of full", x.person(4), Check.OUTSIDE);
        c.due("18 many", x.many(4), 12);
    }

    private static void tongue() {
        MadeTongue x = with(1);
        c.due("19 a word", c.tongue(x, 0, 0, "abcd"), 4);
        c.due("19 none", c.tongue(x, 0, 1, ""), 0);
        c.due("19 five", c.tongue(x, 0, 0, "abcde"), Check.OUTSIDE);
        c.due("19 root ahead of tongue", x.tongue(9, 3, 0, 0, 0, 0), Check.UNKNOWN);
        c.due("19 sheet ahead of tongue", x.tongue(9, 0, 4, 0, 0, 0), Check.UNKNOWN);
        for (int bad : new int[] {-1, 4}) c.due("19 tongue", x.tongue(bad, 0, 0, 0, 0, 0), Check.OUTSIDE);
        c.due("19 lane", x.tongue(0, 0, 0, 3, 0, 0), Check.OUTSIDE);
        c.due("19 null", x.tongue(0, 0, 0, 0, 0, -1), Check.NULL);
        c.lay(x, 0, 1, 1, 27);
        c.due("19 cast", x.tongue(0, 0, 0, 0, 0, -1), Check.CAST);
        c.due("19 size", x.tongue(0, 0, 0, 1, -1, -1), Check.SIZE);
        c.due("19 index", x.tongue(0, 0, 0, 1, 1, 2), Check.INDEX);
        c.due("19 index, none taken", x.tongue(0, 0, 0, 1, 3, 0), Check.INDEX);
        c.due("19 fault", x.fault(), 3);
        c.due("19 no letter", x.tongue(0, 0, 0, 1, 0, 2), Check.OUTSIDE);
        c.due("19 fault then", x.fault(), 0);
        c.due("19 refusals changed nothing", x.easy(0, 0), 2);
        c.due("19 none at the end of a row", x.tongue(0, 0, 0, 1, 2, 0), 0);
        c.due("19 the word is none", x.easy(0, 0), 4);
    }

    private static void easy() {
        MadeTongue x = with(2);
        c.due("20 none at first", x.easy(0, 0), 4);
        String[] words = {"abc", "ab", "bc", "ac", "abd", "cab", "cba", "xyzw", "a", "abcd", "xabc", "dddd", "bca"};
        int[] due = {1, 2, 2, 2, 2, 3, 3, 5, 3, 2, 2, 5, 3};
        for (int k = 0; k < words.length; k++) {
            c.tongue(x, 0, 0, words[k]);
            c.due("20 from " + words[k], x.easy(0, 0), due[k]);
            c.due("20 another tongue", x.easy(1, 0), 4);
            c.due("20 another root", x.easy(0, 1), 3);
        }
        c.due("20 person", x.easy(2, 0), Check.UNKNOWN);
        c.due("20 person below", x.easy(-1, 0), Check.UNKNOWN);
        c.due("20 root", x.easy(0, 3), Check.UNKNOWN);
        c.due("20 root below", x.easy(0, -1), Check.UNKNOWN);
        x.learn(1, 0, true);
        c.due("20 of one that knows it, too", x.easy(1, 0), 4);
    }

    private static void learn() {
        MadeTongue x = with(2);
        c.due("21 knows", x.learn(0, 1, true), 1);
        c.due("21 knew", x.learn(0, 1, true), 0);
        c.due("21 no more", x.learn(0, 1, false), 1);
        c.due("21 did not", x.learn(0, 1, false), 0);
        c.due("21 person", x.learn(2, 0, true), Check.UNKNOWN);
        c.due("21 root", x.learn(0, 3, true), Check.UNKNOWN);
        c.due("21 below", x.learn(-1, -1, false), Check.UNKNOWN);
    }

    private static void knows() {
        MadeTongue x = with(2);
        c.due("22 none", x.knows(1), 0);
        x.learn(1, 0, true);
        x.learn(1, 2, true);
        c.due("22 two", x.knows(1), 5);
        c.due("22 the other none", x.knows(0), 0);
        x.learn(1, 0, false);
        c.due("22 one", x.knows(1), 4);
        c.due("22 person", x.knows(2), Check.UNKNOWN);
        c.due("22 below", x.knows(Integer.MIN_VALUE), Check.UNKNOWN);
    }

    private static void reform() {
        MadeTongue x = with(5);
        c.tongue(x, 0, 0, "abd");
        c.tongue(x, 1, 0, "abc");
        // MONTHS of abc: 2 1 4 4 2; of abd: 1 2 4 4 1; of a: 3 3 2 2 3.
        c.due("23 saved by abd", c.reform(x, 0, 0, "abd"), 1);
        c.due("23 cost where none knows", c.reform(x, 0, 1, "abd"), 0);
        c.due("23 saved by a", c.reform(x, 0, 0, "a"), 0);
        x.learn(1, 0, true);
        c.due("23 saved, less one", c.reform(x, 0, 0, "abd"), 2);
        c.due("23 cost of one", c.reform(x, 0, 1, "abd"), 2);
        x.learn(2, 0, true);
        x.learn(3, 0, true);
        c.due("23 saved below 0", c.reform(x, 0, 0, "a"), -2);
        c.due("23 cost of three", c.reform(x, 0, 1, "a"), 7);
        c.due("23 to what it is", c.reform(x, 0, 0, "abc"), 0);
        c.due("23 nothing is done", x.ofRoot(0, 7), 3);
        x.learn(0, 0, true);
        c.due("23 cost of four", c.reform(x, 0, 1, "a"), 10);
        x.learn(0, 0, false);
        c.due("23 to a root that is there", c.reform(x, 0, 1, "z"), 4 + 2 + 2);
    }

    private static void reformIsRefused() {
        MadeTongue x = with(1);
        c.due("23 null", x.reform(0, 0, 0, 0, 0, -1), Check.LOST);
        c.due("23 fault null", x.fault(), 1);
        c.due("23 root", x.reform(3, 0, 0, 0, 0, 1), Check.LOST);
        c.due("23 refused ahead of null", x.fault(), 0);
        x.reform(0, 0, 0, 0, 0, 1);
        c.due("23 sheet", x.reform(0, 0, 4, 0, 0, 1), Check.LOST);
        c.due("23 refused ahead of null, too", x.fault(), 0);
        for (int bad : new int[] {-1, 2, Integer.MAX_VALUE}) {
            x.reform(0, 0, 0, 0, 0, 1);
            c.due("23 what", x.reform(0, bad, 0, 0, 0, 1), Check.LOST);
            c.due("23 what is refused", x.fault(), 0);
        }
        x.reform(0, 0, 0, 0, 0, 1);
        c.due("23 lane", x.reform(0, 0, 0, 3, 0, 1), Check.LOST);
        c.due("23 lane is refused", x.fault(), 0);
        c.lay(x, 0, 1, 1, 2, 3, 4, 5, 0);
        c.due("23 cast", x.reform(0, 0, 0, 2, 0, -1), Check.LOST);
        c.due("23 fault cast", x.fault(), 2);
        c.due("23 size", x.reform(0, 0, 0, 1, -1, -1), Check.LOST);
        c.due("23 fault size", x.fault(), 4);
        c.due("23 index", x.reform(0, 0, 0, 1, 5, 2), Check.LOST);
        c.due("23 fault index", x.fault(), 3);
        for (int n : new int[] {0, 5}) {
            c.due("23 n", x.reform(0, 0, 0, 1, 0, n), Check.LOST);
            c.due("23 n is refused", x.fault(), 0);
        }
        c.due("23 no letter", x.reform(0, 0, 0, 1, 4, 2), Check.LOST);
        c.due("23 well", x.reform(0, 0, 0, 1, 0, 4), -1);
    }

    private static void journal() {
        MadeTongue x = with(3);
        for (int bad : new int[] {8, -1, Integer.MIN_VALUE, 1 << 12, 9}) {
            c.due("24 writers", x.journal(bad, 0), Check.OUTSIDE);
            c.due("24 readers", x.journal(0, bad), Check.OUTSIDE);
        }
        for (int k = 0; k < 6; k++) c.due("24 journal " + k, x.journal(k, 7), k);
        c.due("24 full", x.journal(0, 0), Check.FULL);
        c.due("24 outside ahead of full", x.journal(8, 0), Check.OUTSIDE);
        c.due("24 many", x.many(5), 6);
        MadeTongue y = new MadeTongue();
        c.due("24 no persons, none named", y.journal(0, 0), 0);
        c.due("24 no persons, one named", y.journal(1, 0), Check.OUTSIDE);
    }

    private static void need() {
        MadeTongue x = new MadeTongue();
        c.due("25 two at first", x.need(9), 2);
        c.due("25 nine", x.need(1), 9);
        for (int bad : new int[] {0, 10, -1, Integer.MAX_VALUE}) c.due("25 n", x.need(bad), Check.OUTSIDE);
        c.due("25 one still", x.need(1), 1);
    }

    private static void hearing() {
        MadeTongue x = with(4);
        x.need(3);
        x.learn(0, 0, true);
        x.journal(1, 6);
        c.due("26 a month", x.month(), 0);
        c.due("27 once", x.heard(1, 0), 1);
        c.due("27 once, too", x.heard(2, 0), 1);
        c.due("27 does not read", x.heard(3, 0), 0);
        c.due("27 not that root", x.heard(1, 1), 0);
        x.journal(1, 2);
        c.due("26 two journals: 1 hears it twice", x.month(), 1);
        c.due("22 1 knows it", x.knows(1), 1);
        c.due("27 of one that knows it", x.heard(1, 0), 0);
        c.due("27 twice", x.heard(2, 0), 2);
        c.due("26 then 2", x.month(), 1);
        c.due("28 three know it", x.spread(0), 7);
        c.due("26 then none", x.month(), 0);
        c.due("27 of one that knows it still", x.heard(2, 0), 0);
        c.due("55 months", x.many(9), 4);
        c.due("27 person", x.heard(4, 0), Check.UNKNOWN);
        c.due("27 root", x.heard(0, 3), Check.UNKNOWN);
        c.due("27 below", x.heard(-1, 0), Check.UNKNOWN);
    }

    private static void needLowered() {
        MadeTongue x = with(2);
        x.need(9);
        x.learn(0, 0, true);
        x.journal(1, 2);
        x.month();
        x.month();
        x.learn(0, 0, false);
        c.due("26 nothing is heard", x.month(), 0);
        c.due("27 twice, all together", x.heard(1, 0), 2);
        x.need(2);
        c.due("27 a month must come first", x.heard(1, 0), 2);
        c.due("26 as often as is needed now", x.month(), 1);
        c.due("22 it knows it", x.knows(1), 1);
        for (int k = 0; k < 5; k++) c.due("26 it counts as heard then", x.month(), 0);
        c.due("26 the sixth month behind", x.month(), 1000);
    }

    private static void forgetting() {
        MadeTongue x = with(2);
        x.learn(0, 0, true);
        for (int k = 1; k <= 5; k++) c.due("26 month " + k, x.month(), 0);
        c.due("22 still", x.knows(0), 1);
        c.due("26 the sixth", x.month(), 1000);
        c.due("22 no more", x.knows(0), 0);
        c.due("27 and has heard it 0 times", x.heard(0, 0), 0);
        x.learn(0, 0, true);
        for (int k = 1; k <= 5; k++) c.due("21 counts as heard in the latest month", x.month(), 0);
        c.due("26 the sixth again", x.month(), 1000);
        x.learn(1, 0, true);
        x.month();
        c.due("21 known already: nothing changes", x.learn(1, 0, true), 0);
        for (int k = 2; k <= 5; k++) x.month();
        c.due("26 so it is the sixth", x.month(), 1000);
    }

    private static void hearingKeeps() {
        MadeTongue x = with(3);
        x.learn(0, 0, true);
        x.learn(1, 0, true);
        x.learn(2, 0, true);
        x.journal(1, 2);
        for (int k = 0; k < 5; k++) c.due("26 no change", x.month(), 0);
        c.due("26 2 reads nothing", x.month(), 1000);
        c.due("28 two know it", x.spread(0), 3);
        for (int k = 0; k < 4; k++) x.month();
        x.learn(0, 0, false);
        for (int k = 0; k < 5; k++) c.due("26 since it was told last", x.month(), 0);
        c.due("26 1 no more", x.month(), 1000);
        c.due("28 none", x.spread(0), 0);
    }

    private static void writersDoNotForget() {
        MadeTongue x = with(2);
        x.learn(0, 0, true);
        x.learn(1, 0, true);
        x.journal(1, 0);
        for (int k = 0; k < 5; k++) x.month();
        c.due("26 only 1", x.month(), 1000);
        for (int k = 0; k < 9; k++) c.due("26 0 writes", x.month(), 0);
        c.due("28 0 knows it", x.spread(0), 1);
    }

    private static void knownAsTheMonthBegan() {
        MadeTongue x = with(3);
        x.need(1);
        x.learn(0, 0, true);
        x.journal(1, 2);
        x.journal(2, 4);
        c.due("26 1 alone", x.month(), 1);
        c.due("27 2 heard nothing", x.heard(2, 0), 0);
        c.due("26 then 2", x.month(), 1);
        c.due("28 all", x.spread(0), 7);
        MadeTongue y = with(3);
        y.need(1);
        y.learn(0, 0, true);
        y.journal(2, 4);
        y.journal(1, 2);
        c.due("26 the order of journals is no matter", y.month(), 1);
        c.due("28 not yet", y.spread(0), 3);
    }

    private static void manyAtOnce() {
        MadeTongue x = with(12);
        x.need(1);
        for (int root = 0; root < 3; root++) x.learn(0, root, true);
        x.journal(1, 0xffe);
        c.due("26 eleven persons, three roots", x.month(), 33);
        MadeTongue y = with(12);
        for (int p = 0; p < 12; p++) for (int root = 0; root < 3; root++) y.learn(p, root, true);
        for (int k = 0; k < 5; k++) y.month();
        c.due("26 twelve persons, three roots", y.month(), 36000);
        MadeTongue z = with(3);
        z.need(1);
        z.learn(0, 0, true);
        for (int k = 0; k < 5; k++) z.month();
        z.learn(1, 1, true);
        z.journal(2, 4);
        c.due("26 one comes, one goes", z.month(), 1001);
    }

    private static void learnedAnew() {
        MadeTongue x = with(2);
        x.need(3);
        x.learn(0, 0, true);
        x.journal(1, 3);
        x.month();
        x.month();
        c.due("27 twice", x.heard(1, 0), 2);
        x.learn(1, 0, true);
        c.due("27 knows it", x.heard(1, 0), 0);
        x.learn(1, 0, false);
        c.due("27 anew", x.heard(1, 0), 0);
        x.month();
        c.due("27 once", x.heard(1, 0), 1);
        c.due("21 it was so", x.learn(1, 0, false), 0);
        c.due("27 nothing changed", x.heard(1, 0), 1);
        c.due("27 one that reads its own", x.heard(0, 0), 0);
    }

    private static void eachByItself() {
        MadeTongue x = with(3);
        x.need(9);
        for (int root = 0; root < 3; root++) x.learn(2, root, true);
        x.journal(4, 1);
        x.month();
        x.learn(2, 0, false);
        x.month();
        x.learn(2, 1, false);
        x.month();
        for (int root = 0; root < 3; root++) c.due("27 root " + root, x.heard(0, root), root + 1);
        for (int root = 0; root < 3; root++) c.due("27 of one that does not read", x.heard(1, root), 0);
        x.need(3);
        c.due("26 root 2 alone, that comes a fourth time", x.month(), 1);
        c.due("22 root 2", x.knows(0), 4);
    }

    private static void spread() {
        MadeTongue x = with(12);
        c.due("28 none", x.spread(0), 0);
        x.learn(0, 0, true);
        x.learn(11, 0, true);
        x.learn(5, 1, true);
        c.due("28 two", x.spread(0), 2049);
        c.due("28 one", x.spread(1), 32);
        c.due("28 root", x.spread(3), Check.UNKNOWN);
        c.due("28 below", x.spread(-1), Check.UNKNOWN);
    }
}
