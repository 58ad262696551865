/** Promises 1 to 11: a new object, ROOTS, ENDINGS, RULES, WAYS, TWO. */
public final class WordsTest {
    private static final Check c = new Check();

    public static void main(String[] args) {
        newObject();
        rootsComeAndAreRefused();
        rootsInTheirOrderOfRefusals();
        rootsAreFull();
        endings();
        endingsAreFull();
        ofRoot();
        textsOfRules();
        rulesAreRefused();
        rulesAreFull();
        stand();
        mayAndWhy();
        rulesByClubsAndYears();
        lastClauseTells();
        ways();
        waysWithJoinedRoots();
        waysAreCapped();
        waysAreRefused();
        parse();
        parseInOrder();
        parseIsRefused();
        two();
        twoFollowsTheStand();
        twoNeedsThreePartsAtMost();
        twoAtItsLongest();
        c.end("WordsTest");
    }

    private static void newObject() {
        MadeTongue x = new MadeTongue();
        for (int what = 0; what <= 10; what++) c.due("1 many(" + what + ")", x.many(what), 0);
        c.due("1 trace", x.trace(), 0);
        c.due("1 fault", x.fault(), 0);
        for (int k = 0; k < 4; k++) c.due("1 sheet " + k + " has nothing", x.lose(k), 0);
        c.due("1 ofRoot", x.ofRoot(0, 0), Check.UNKNOWN);
        c.due("1 knows", x.knows(0), Check.UNKNOWN);
        c.due("1 beyond", x.beyond(0), Check.UNKNOWN);
        c.due("1 worlds", x.worlds(0, 0), Check.UNKNOWN);
        c.due("1 spread", x.spread(0), Check.UNKNOWN);
        c.due("1 seats", x.seats(), 0);
        c.due("1 two", x.two(-1), Check.NONE);
        c.due("1 table", x.table(-1), 0);
        c.due("1 round", x.round(0), 1);
        c.due("1 need", x.need(5), 2);
        c.due("1 why", x.why(0, 0), Check.NONE);
        c.due("1 stand", x.stand(0, 0), 0);
        c.due("1 month", x.month(), 0);
    }

    private static void rootsComeAndAreRefused() {
        MadeTongue x = new MadeTongue();
        c.due("2 first root", c.root(x, 0, 0, "ab"), 0);
        c.due("2 second root", c.root(x, 2, 3, "abcd"), 1);
        c.due("2 letters 1 and 26", c.root(x, 1, 1, "az"), 2);
        c.due("2 alike", c.root(x, 0, 0, "ab"), Check.STATE);
        c.due("2 alike of another kind and class", c.root(x, 1, 2, "ab"), Check.STATE);
        c.due("2 longer than another is not alike", c.root(x, 0, 0, "abc"), 3);
        c.due("2 the order of letters counts", c.root(x, 0, 0, "ba"), 4);
        c.due("2 no letters", c.root(x, 0, 0, ""), Check.OUTSIDE);
        c.due("2 five letters", c.root(x, 0, 0, "abcde"), Check.OUTSIDE);
        c.lay(x, 0, 0, 0, 27, 257, -1);
        for (int i : new int[] {0, 1, 3}) c.due("2 no letter " + i, x.root(0, 0, 0, 0, i, 1), Check.OUTSIDE);
        c.due("2 a byte is cut", x.root(0, 0, 0, 0, 2, 1), 5);
        c.due("2 its letter", x.ofRoot(5, 5), 1);
        c.lay(x, 1, 1, 65536 + 7);
        c.due("2 a short is cut", x.root(0, 0, 1, 1, 0, 1), 6);
        c.lay(x, 2, 2, 65536 + 7);
        c.due("2 an int is not cut", x.root(0, 0, 2, 2, 0, 1), Check.OUTSIDE);
        c.lay(x, 2, 2, 0, 9, 8, 0);
        c.due("2 cells in the middle", x.root(0, 0, 2, 2, 1, 2), 7);
        c.due("2 its letters", x.ofRoot(7, 5) * 100 + x.ofRoot(7, 6), 908);
        c.due("2 many", x.many(0), 8);
    }

    private static void rootsInTheirOrderOfRefusals() {
        MadeTongue x = new MadeTongue();
        int big = Integer.MAX_VALUE, low = Integer.MIN_VALUE;
        c.due("2 sheet first", x.root(9, 9, 4, 9, -1, -1), Check.UNKNOWN);
        c.due("2 sheet below", x.root(0, 0, -1, 0, 0, 1), Check.UNKNOWN);
        for (int bad : new int[] {-1, 3, big, low}) {
            c.due("2 kind", x.root(bad, 0, 0, 0, 0, -1), Check.OUTSIDE);
            c.due("2 lane", x.root(0, 0, 0, bad, 0, -1), Check.OUTSIDE);
        }
        for (int bad : new int[] {-1, 4, big, low}) c.due("2 class", x.root(0, bad, 0, 0, 0, -1), Check.OUTSIDE);
        c.due("2 fault of a refusal", x.fault(), 0);
        c.due("2 null ahead of size", x.root(0, 0, 0, 0, 0, -1), Check.NULL);
        c.due("2 fault null", x.fault(), 1);
        c.lay(x, 0, 1, 1, 2);
        c.due("2 cast ahead of size", x.root(0, 0, 0, 0, 0, -1), Check.CAST);
        c.due("2 fault cast", x.fault(), 2);
        c.due("2 size ahead of index", x.root(0, 0, 0, 1, -1, -1), Check.SIZE);
        c.due("2 fault size", x.fault(), 4);
        c.due("2 size at its lowest", x.root(0, 0, 0, 1, 0, low), Check.SIZE);
        c.due("2 index ahead of outside", x.root(0, 0, 0, 1, 0, 5), Check.INDEX);
        c.due("2 fault index", x.fault(), 3);
        c.due("2 index below", x.root(0, 0, 0, 1, -1, 1), Check.INDEX);
        c.due("2 index below, none taken", x.root(0, 0, 0, 1, -1, 0), Check.INDEX);
        c.due("2 index beyond, none taken", x.root(0, 0, 0, 1, 3, 0), Check.INDEX);
        c.due("2 index at the end, none taken", x.root(0, 0, 0, 1, 2, 0), Check.OUTSIDE);
        c.due("2 index wraps", x.root(0, 0, 0, 1, 1, big), Check.INDEX);
        c.due("2 index wraps from far", x.root(0, 0, 0, 1, big, 1), Check.INDEX);
        c.due("2 index of the last and one more", x.root(0, 0, 0, 1, 1, 2), Check.INDEX);
        c.due("2 nothing came", x.many(0), 0);
        c.due("2 well at last", x.root(0, 0, 0, 1, 0, 2), 0);
        c.due("2 no fault then", x.fault(), 0);
    }

    private static void rootsAreFull() {
        MadeTongue x = new MadeTongue();
        for (int k = 0; k < 16; k++) c.due("2 root " + k, c.root(x, 0, 0, String.valueOf((char) ('a' + k))), k);
        c.due("2 full", c.root(x, 0, 0, "zz"), Check.FULL);
        c.due("2 alike ahead of full", c.root(x, 0, 0, "a"), Check.STATE);
        c.due("2 many at the end", x.many(0), 16);
        c.due("2 not that one", x.ofRoot(16, 0), Check.UNKNOWN);
    }

    private static void endings() {
        MadeTongue x = new MadeTongue();
        c.due("3 first", c.ending(x, 0, 1, "a"), 0);
        c.due("3 two letters", c.ending(x, 3, 3, "ab"), 1);
        c.due("3 alike is no matter", c.ending(x, 0, 1, "a"), 2);
        c.due("3 no letters", c.ending(x, 0, 1, ""), Check.OUTSIDE);
        c.due("3 three letters", c.ending(x, 0, 1, "abc"), Check.OUTSIDE);
        c.due("3 sheet", x.ending(9, 0, -1, 0, 0, 1), Check.UNKNOWN);
        c.due("3 from", x.ending(4, 0, 0, 0, 0, 1), Check.OUTSIDE);
        c.due("3 from below", x.ending(-1, 0, 0, 0, 0, 1), Check.OUTSIDE);
        c.due("3 to", x.ending(0, 4, 0, 0, 0, 1), Check.OUTSIDE);
        c.due("3 lane", x.ending(0, 0, 0, 3, 0, 1), Check.OUTSIDE);
        c.due("3 null", x.ending(0, 0, 0, 0, 0, -1), Check.NULL);
        c.due("3 fault", x.fault(), 1);
        c.lay(x, 0, 0, 1, 0);
        c.due("3 cast", x.ending(0, 0, 0, 2, 0, -1), Check.CAST);
        c.due("3 size", x.ending(0, 0, 0, 0, 9, -1), Check.SIZE);
        c.due("3 index", x.ending(0, 0, 0, 0, 0, 3), Check.INDEX);
        c.due("3 no letter", x.ending(0, 0, 0, 0, 0, 2), Check.OUTSIDE);
        c.due("3 fault of a refusal", x.fault(), 0);
        c.due("3 many", x.many(1), 3);
    }

    private static void endingsAreFull() {
        MadeTongue x = new MadeTongue();
        for (int k = 0; k < 8; k++) c.due("3 ending " + k, c.ending(x, 0, 0, "a"), k);
        c.due("3 full", c.ending(x, 0, 0, "b"), Check.FULL);
        c.due("3 outside ahead of full", c.ending(x, 0, 0, "abc"), Check.OUTSIDE);
        c.due("3 many", x.many(1), 8);
    }

    private static void ofRoot() {
        MadeTongue x = new MadeTongue();
        c.root(x, 2, 3, "dcba");
        c.root(x, 1, 0, "z");
        int[] due = {2, 3, 4, 0, Check.NONE, 4, 3, 2, 1, Check.OUTSIDE};
        for (int what = 0; what < due.length; what++) c.due("4 ofRoot " + what, x.ofRoot(0, what), due[what]);
        c.due("4 last letter", x.ofRoot(1, 5), 26);
        c.due("4 no second letter", x.ofRoot(1, 6), Check.OUTSIDE);
        c.due("4 below", x.ofRoot(0, -1), Check.OUTSIDE);
        c.due("4 far", x.ofRoot(0, Integer.MAX_VALUE), Check.OUTSIDE);
        c.due("4 lowest", x.ofRoot(0, Integer.MIN_VALUE), Check.OUTSIDE);
        c.due("4 root ahead of what", x.ofRoot(2, -1), Check.UNKNOWN);
        c.due("4 root below", x.ofRoot(-1, 0), Check.UNKNOWN);
        x.uses(0, 77);
        x.pair(1, 0);
        c.due("4 uses", x.ofRoot(0, 3), 77);
        c.due("4 pair", x.ofRoot(0, 4), 0);
        c.due("4 pair of the other", x.ofRoot(1, 4), 0);
    }

    private static void textsOfRules() {
        String[] good = {"n+n", "!n+v", "a+o,o+a", "n+n,!n+n,v+v,!o+o"};
        for (String text : good) c.due("5 " + text, c.rule(new MadeTongue(), -1, 0, 0, text), 0);
        String[] bad = {"", "n", "n+", "!", "!n", "!n+", "n+n,", "n+n,!", "n+n,n+n,n+n,n+", "n+n,n+n,n+n,n+n,",
            "x", "!!", "n!", "n+!", "n+n+", "n+n!", "n+nn", ",", "n,", "n+,", "n+n,,", "n+n,+", "N+n", "n n", "n+n,n+n,n+n,n+n,n+n",
            "n+n,n+n,n+n,n+nn"};
        int[] place = {0, 1, 2, 1, 2, 3, 4, 5, 14, 15, 0, 1, 1, 2, 3, 3, 3, 0, 1, 2, 4, 4, 0, 1, 15, 15};
        for (int k = 0; k < bad.length; k++) {
            MadeTongue x = new MadeTongue();
            c.due("5 " + bad[k], c.rule(x, -1, 0, 0, bad[k]), -100 - place[k]);
            c.due("5 that is no fault", x.fault(), 0);
            c.due("5 nothing came", x.many(2), 0);
            c.due("5 nothing is told", x.why(0, 0), Check.NONE);
        }
        MadeTongue x = new MadeTongue();
        c.lay(x, 1, 0, 1, 'v', '+', 'a', 1);
        c.due("5 from the middle", x.rule(0, 0, 0, 1, 0, 1, 3), 0);
        c.due("5 it tells", x.may(1, 2), 1);
        c.lay(x, 1, 2, 'n' + 256, '+', 'n');
        c.due("5 an int is not cut", x.rule(0, 0, 0, 1, 2, 0, 3), -100);
        c.lay(x, 1, 0, 'n' + 256, '+', 'n');
        c.due("5 a byte is", x.rule(0, 0, 0, 1, 0, 0, 3), 1);
    }

    private static void rulesAreRefused() {
        MadeTongue x = new MadeTongue();
        c.due("5 sheet", x.rule(9, -1, 0, 4, 0, 0, 0), Check.UNKNOWN);
        for (int bad : new int[] {-2, 4, Integer.MAX_VALUE, Integer.MIN_VALUE}) {
            c.due("5 club", x.rule(bad, 0, 0, 0, 0, 0, 0), Check.OUTSIDE);
        }
        c.due("5 from below", x.rule(0, -1, 0, 0, 0, 0, 0), Check.OUTSIDE);
        c.due("5 to beyond", x.rule(0, 0, 1000, 0, 0, 0, 0), Check.OUTSIDE);
        c.due("5 to ahead of from", x.rule(0, 5, 4, 0, 0, 0, 0), Check.OUTSIDE);
        c.due("5 lane", x.rule(0, 0, 0, 0, 3, 0, 0), Check.OUTSIDE);
        c.due("5 null", x.rule(0, 0, 0, 0, 0, 0, -1), Check.NULL);
        c.lay(x, 0, 2, Check.codes("n+n"));
        c.due("5 cast", x.rule(0, 0, 0, 0, 0, 0, -1), Check.CAST);
        c.due("5 size", x.rule(0, 0, 0, 0, 2, -1, -1), Check.SIZE);
        c.due("5 index", x.rule(0, 0, 0, 0, 2, 1, 3), Check.INDEX);
        c.due("5 fault", x.fault(), 3);
        c.due("5 no codes", x.rule(0, 0, 0, 0, 2, 3, 0), -100);
        c.due("5 fault then", x.fault(), 0);
        c.due("5 one year", x.rule(3, 999, 999, 0, 2, 0, 3), 0);
    }

    private static void rulesAreFull() {
        MadeTongue x = new MadeTongue();
        for (int k = 0; k < 10; k++) c.due("5 rule " + k, c.rule(x, -1, 0, 999, "n+n"), k);
        c.due("5 full", c.rule(x, -1, 0, 999, "!n+n"), Check.FULL);
        c.due("5 its fault ahead of full", c.rule(x, -1, 0, 999, "!n+n,v+v,"), -109);
        c.due("5 many", x.many(2), 10);
        c.due("5 the last one tells still", x.why(0, 0), 9);
        c.due("5 as it did", x.may(0, 0), 1);
        x.stand(1, 1);
        c.due("5 elsewhere, too", x.may(0, 0), 1);
        c.due("5 what was read last is told nowhere", x.why(1, 1), Check.NONE);
    }

    private static void stand() {
        MadeTongue x = new MadeTongue();
        c.due("6 as at first", x.stand(0, 0), 0);
        c.due("6 a year", x.stand(0, 999), 1);
        c.due("6 a club", x.stand(3, 999), 1);
        c.due("6 again", x.stand(3, 999), 0);
        for (int bad : new int[] {-1, 4, Integer.MIN_VALUE}) c.due("6 club", x.stand(bad, 0), Check.OUTSIDE);
        for (int bad : new int[] {-1, 1000, Integer.MAX_VALUE}) c.due("6 year", x.stand(0, bad), Check.OUTSIDE);
        c.due("6 still there", x.stand(3, 999), 0);
    }

    private static void mayAndWhy() {
        MadeTongue x = new MadeTongue();
        for (int a = 0; a < 4; a++) {
            for (int b = 0; b < 4; b++) {
                c.due("7 none may", x.may(a, b), 0);
                c.due("8 none tells", x.why(a, b), Check.NONE);
            }
        }
        c.rule(x, -1, 0, 999, "n+v,a+o");
        c.due("7 n+v", x.may(0, 1), 1);
        c.due("7 v+n", x.may(1, 0), 0);
        c.due("7 a+o", x.may(2, 3), 1);
        c.due("8 n+v", x.why(0, 1), 0);
        c.due("8 v+n", x.why(1, 0), Check.NONE);
        c.rule(x, -1, 0, 999, "!n+v");
        c.due("7 n+v is not", x.may(0, 1), 0);
        c.due("8 by the second", x.why(0, 1), 1);
        c.due("8 a+o by the first", x.why(2, 3), 0);
        for (int bad : new int[] {-1, 4, Integer.MAX_VALUE, Integer.MIN_VALUE}) {
            c.due("7 x", x.may(bad, 0), Check.OUTSIDE);
            c.due("7 y", x.may(0, bad), Check.OUTSIDE);
            c.due("8 x", x.why(bad, 0), Check.OUTSIDE);
            c.due("8 y", x.why(0, bad), Check.OUTSIDE);
        }
    }

    private static void rulesByClubsAndYears() {
        MadeTongue x = new MadeTongue();
        c.rule(x, -1, 10, 20, "n+n");
        c.rule(x, 2, 15, 30, "!n+n");
        int[][] due = {{0, 9, 0, Check.NONE}, {0, 10, 1, 0}, {0, 20, 1, 0}, {0, 21, 0, Check.NONE}, {2, 14, 1, 0},
            {2, 15, 0, 1}, {2, 30, 0, 1}, {2, 31, 0, Check.NONE}, {1, 16, 1, 0}};
        for (int[] at : due) {
            x.stand(at[0], at[1]);
            c.due("7 in " + at[1] + " for " + at[0], x.may(0, 0), at[2]);
            c.due("8 in " + at[1] + " for " + at[0], x.why(0, 0), at[3]);
        }
        x.stand(2, 16);
        c.rule(x, 1, 0, 999, "n+n");
        c.due("8 another club's does not tell", x.why(0, 0), 1);
        c.rule(x, 2, 16, 16, "n+n");
        c.due("8 the greatest tells at once", x.why(0, 0), 3);
        c.due("7 the greatest tells at once", x.may(0, 0), 1);
    }

    private static void lastClauseTells() {
        MadeTongue x = new MadeTongue();
        c.rule(x, -1, 0, 0, "n+n,!n+n,v+v,!a+a");
        c.due("7 not at last", x.may(0, 0), 0);
        c.due("8 it tells", x.why(0, 0), 0);
        c.rule(x, -1, 0, 0, "!n+n,a+a,n+n");
        c.due("7 at last", x.may(0, 0), 1);
        c.due("7 a+a", x.may(2, 2), 1);
        c.due("7 v+v of the first", x.may(1, 1), 1);
    }

    private static void ways() {
        MadeTongue x = new MadeTongue();
        c.root(x, 0, 0, "a");
        c.root(x, 0, 1, "ab");
        c.ending(x, 0, 1, "b");
        c.ending(x, 1, 1, "c");
        c.ending(x, 1, 2, "cc");
        c.due("9 a", c.ways(x, "a"), 1);
        c.due("9 b is an ending alone", c.ways(x, "b"), 0);
        c.due("9 ab", c.ways(x, "ab"), 2);
        c.due("9 abc", c.ways(x, "abc"), 2);
        c.due("9 abcc", c.ways(x, "abcc"), 4);
        c.due("9 abccc: not behind cc", c.ways(x, "abccc"), 4);
        c.due("9 ac: c is not from n", c.ways(x, "ac"), 0);
        c.due("9 aa is not joined", c.ways(x, "aa"), 0);
        c.due("9 other letters", c.ways(x, "abd"), 0);
        c.ending(x, 0, 1, "b");
        c.due("9 endings alike count each", c.ways(x, "ab"), 3);
    }

    private static void waysWithJoinedRoots() {
        MadeTongue x = new MadeTongue();
        c.root(x, 0, 0, "a");
        c.root(x, 0, 1, "aa");
        c.rule(x, -1, 0, 5, "n+n,n+v");
        c.due("9 aaa: a a a, a aa", c.ways(x, "aaa"), 2);
        c.due("9 aaaa: a a a a, a a aa", c.ways(x, "aaaa"), 2);
        c.rule(x, -1, 0, 5, "v+n");
        c.due("9 aaa: and aa a", c.ways(x, "aaa"), 3);
        x.stand(0, 6);
        c.due("9 aaa: out of force", c.ways(x, "aaa"), 0);
        c.due("9 aa alone", c.ways(x, "aa"), 1);
    }

    private static void waysAreCapped() {
        MadeTongue x = new MadeTongue();
        c.root(x, 0, 0, "a");
        for (int k = 0; k < 2; k++) c.ending(x, 0, 0, "b");
        c.due("9 two to the 18th", c.ways(x, "a" + "b".repeat(18)), 1 << 18);
        c.due("9 two to the 19th", c.ways(x, "a" + "b".repeat(19)), 1 << 19);
        for (int k = 2; k < 8; k++) c.ending(x, 0, 0, "b");
        c.due("9 eight to the 6th", c.ways(x, "a" + "b".repeat(6)), 262144);
        c.due("9 eight to the 7th", c.ways(x, "a" + "b".repeat(7)), 1000000);
        c.due("9 eight to the 19th", c.ways(x, "a" + "b".repeat(19)), 1000000);
        c.due("9 none behind many", c.ways(x, "a" + "b".repeat(18) + "c"), 0);
        MadeTongue y = new MadeTongue();
        c.root(y, 0, 0, "a");
        for (int k = 0; k < 5; k++) c.ending(y, 0, 1, "b");
        for (int k = 0; k < 2; k++) c.ending(y, 1, 0, "b");
        c.due("9 just a million", c.ways(y, "a" + "b".repeat(12)), 1000000);
        c.due("9 a little less", c.ways(y, "a" + "b".repeat(11)), 500000);
    }

    private static void waysAreRefused() {
        MadeTongue x = new MadeTongue();
        c.due("9 sheet", x.ways(4, 9, 0, 1), Check.UNKNOWN);
        c.due("9 lane", x.ways(0, 3, 0, 1), Check.OUTSIDE);
        c.due("9 null", x.ways(0, 0, 0, -1), Check.NULL);
        c.lay(x, 0, 1, new int[25]);
        for (int i = 0; i < 21; i++) x.put(0, i, 1);
        c.due("9 cast", x.ways(0, 0, 0, -1), Check.CAST);
        c.due("9 size", x.ways(0, 1, 99, -1), Check.SIZE);
        c.due("9 index", x.ways(0, 1, 10, 16), Check.INDEX);
        c.due("9 fault", x.fault(), 3);
        c.due("9 none", x.ways(0, 1, 0, 0), Check.OUTSIDE);
        c.due("9 fault then", x.fault(), 0);
        c.due("9 twenty-one", x.ways(0, 1, 0, 21), Check.OUTSIDE);
        c.due("9 twenty", x.ways(0, 1, 0, 20), 0);
        c.due("9 no letter", x.ways(0, 1, 20, 2), Check.OUTSIDE);
    }

    private static void parse() {
        MadeTongue x = new MadeTongue();
        c.root(x, 0, 0, "ab");
        c.root(x, 0, 0, "a");
        c.ending(x, 0, 0, "b");
        c.due("10 ab by the first root", "0".equals(c.parsed(x, "ab")));
        c.due("10 abb", "0 100".equals(c.parsed(x, "abb")));
        c.due("10 no way", "".equals(c.parsed(x, "ba")));
        c.rule(x, -1, 0, 999, "n+n");
        c.root(x, 0, 0, "b");
        c.due("10 a root ahead of an ending", "0 2".equals(c.parsed(x, "abb")));
        c.due("10 as long as it can be", ("1" + " 1".repeat(19)).equals(c.parsed(x, "a".repeat(20))));
    }

    private static void parseInOrder() {
        MadeTongue x = new MadeTongue();
        c.root(x, 0, 0, "a");
        c.root(x, 0, 1, "ab");
        c.ending(x, 0, 2, "bc");
        c.ending(x, 0, 1, "b");
        c.ending(x, 1, 2, "c");
        c.due("10 abc: the least ending", "0 100".equals(c.parsed(x, "abc")));
        c.due("10 abcc has no way", "".equals(c.parsed(x, "abcc")));
        c.ending(x, 2, 2, "d");
        c.due("10 abcd", "0 100 103".equals(c.parsed(x, "abcd")));
        c.ending(x, 1, 3, "cx");
        c.due("10 a first part with which no way ends is left", "0 101 104".equals(c.parsed(x, "abcx")));
        c.ending(x, 2, 1, "y");
        c.due("10 abcy", "0 100 105".equals(c.parsed(x, "abcy")));
    }

    private static void parseIsRefused() {
        MadeTongue x = new MadeTongue();
        x.as(0, 0);
        c.due("10 null", x.parse(0, 0, 0, 1, 0), Check.NULL);
        c.due("10 fault", x.fault(), 1);
        for (int bad : new int[] {-1, 20, Integer.MAX_VALUE, Integer.MIN_VALUE}) {
            c.due("10 k ahead of all", x.parse(0, 9, 0, 1, bad), Check.UNKNOWN);
            c.due("10 fault of a refusal", x.fault(), 0);
        }
        c.due("10 sheet", x.parse(-1, 9, 0, 1, 0), Check.UNKNOWN);
        c.due("10 lane", x.parse(0, -1, 0, 1, 0), Check.OUTSIDE);
        c.lay(x, 0, 0, 1, 1, 27);
        c.due("10 cast", x.parse(0, 1, 0, -1, 0), Check.CAST);
        c.due("10 size", x.parse(0, 0, 0, -1, 0), Check.SIZE);
        c.due("10 index", x.parse(0, 0, 4, 0, 0), Check.INDEX);
        c.due("10 none", x.parse(0, 0, 0, 0, 0), Check.OUTSIDE);
        c.due("10 no letter", x.parse(0, 0, 0, 3, 0), Check.OUTSIDE);
        c.due("10 no roots", x.parse(0, 0, 0, 2, 19), Check.NONE);
    }

    private static void two() {
        MadeTongue x = new MadeTongue();
        c.due("11 none", "".equals(c.two(x)));
        c.root(x, 0, 0, "a");
        c.root(x, 0, 1, "ab");
        c.due("11 none yet", "".equals(c.two(x)));
        c.ending(x, 0, 2, "b");
        c.due("11 ab", "ab".equals(c.two(x)));
        c.root(x, 0, 0, "b");
        c.ending(x, 0, 0, "a");
        c.ending(x, 0, 1, "a");
        c.due("11 aa: endings that are two", "aa".equals(c.two(x)));
        for (int bad : new int[] {-2, 12, Integer.MAX_VALUE, Integer.MIN_VALUE}) c.due("11 k", x.two(bad), Check.UNKNOWN);
    }

    private static void twoFollowsTheStand() {
        MadeTongue x = new MadeTongue();
        c.root(x, 0, 0, "abc");
        c.root(x, 0, 0, "ab");
        c.root(x, 0, 0, "c");
        c.rule(x, 1, 5, 9, "n+n");
        c.due("11 none here", "".equals(c.two(x)));
        x.stand(1, 5);
        c.due("11 abc there", "abc".equals(c.two(x)));
        c.rule(x, 1, 9, 9, "!n+n");
        x.stand(1, 9);
        c.due("11 none then", "".equals(c.two(x)));
    }

    private static void twoNeedsThreePartsAtMost() {
        MadeTongue x = new MadeTongue();
        c.root(x, 0, 0, "a");
        c.ending(x, 0, 1, "b");
        c.ending(x, 1, 2, "c");
        c.ending(x, 2, 3, "d");
        c.ending(x, 2, 3, "d");
        c.due("11 four parts each", "".equals(c.two(x)));
        c.root(x, 0, 0, "abcd");
        c.due("11 one part, and four", "abcd".equals(c.two(x)));
    }

    private static void twoAtItsLongest() {
        MadeTongue x = new MadeTongue();
        c.root(x, 0, 0, "aaaa");
        c.root(x, 0, 1, "bbbb");
        c.root(x, 0, 2, "bccc");
        c.root(x, 0, 3, "aaab");
        c.root(x, 0, 3, "ccc");
        c.rule(x, -1, 0, 0, "n+n,n+v,n+o,o+o");
        c.due("11 none with these", "".equals(c.two(x)));
        c.ending(x, 1, 1, "c");
        c.ending(x, 1, 1, "c");
        c.due("11 bbbbc by two endings", "bbbbc".equals(c.two(x)));
        MadeTongue y = new MadeTongue();
        c.root(y, 0, 0, "abcd");
        c.root(y, 0, 1, "efgh");
        c.root(y, 0, 2, "ijkl");
        c.root(y, 0, 3, "abc");
        c.root(y, 0, 3, "defg");
        c.root(y, 0, 3, "hij");
        c.root(y, 0, 3, "kl");
        c.rule(y, -1, 0, 0, "n+v,v+a,o+o");
        c.due("11 twelve letters", "abcdefghijkl".equals(c.two(y)));
        c.due("11 how many", y.two(-1), 12);
        c.due("11 the last one", y.two(11), 12);
    }
}
