/** Promises 29 to 37: BODIES, VOTES, LETTERS WRITTEN, PARTED, USES, PAIRS, KEPT. */
public final class BodiesTest {
    private static final Check c = new Check();

    public static void main(String[] args) {
        body();
        vote();
        shares();
        beyond();
        seats();
        letters();
        part();
        partOfTwo();
        partAtItsLargest();
        uses();
        pair();
        pairsToTheLast();
        keepWeighs();
        keepApart();
        keepIsLeast();
        c.end("BodiesTest");
    }

    private static MadeTongue with(int persons, String... roots) {
        MadeTongue x = new MadeTongue();
        for (int p = 0; p < persons; p++) x.person(0);
        for (String root : roots) c.root(x, 0, 0, root);
        return x;
    }

    private static void body() {
        MadeTongue x = with(3);
        for (int bad : new int[] {8, -1, 15, Integer.MIN_VALUE, 0}) c.due("29 persons", x.body(bad, 0, 1), Check.OUTSIDE);
        for (int bad : new int[] {-1, 8, Integer.MAX_VALUE}) c.due("29 acts", x.body(1, bad, 1), Check.OUTSIDE);
        for (int bad : new int[] {0, 11, -1, Integer.MAX_VALUE}) c.due("29 share", x.body(1, 0, bad), Check.OUTSIDE);
        for (int b = 0; b < 4; b++) c.due("29 body " + b, x.body(7, 7 - b, b == 0 ? 10 : 1), b);
        c.due("29 full", x.body(1, 0, 1), Check.FULL);
        c.due("29 outside ahead of full", x.body(0, 0, 1), Check.OUTSIDE);
        c.due("29 many", x.many(6), 4);
    }

    private static void vote() {
        MadeTongue x = with(4);
        x.body(11, 5, 7);
        c.due("30 all", x.vote(0, 0, 11), 1);
        c.due("30 two of three are below seven tenths", x.vote(0, 2, 3), 0);
        c.due("30 beyond, all", x.vote(0, 1, 11), 3);
        c.due("30 beyond, none", x.vote(0, 1, 0), 2);
        c.due("30 body ahead of act", x.vote(1, 9, 99), Check.UNKNOWN);
        c.due("30 body below", x.vote(-1, 0, 0), Check.UNKNOWN);
        for (int bad : new int[] {-1, 3, Integer.MAX_VALUE}) c.due("30 act", x.vote(0, bad, 0), Check.OUTSIDE);
        for (int bad : new int[] {4, 15, 16, -1, Integer.MIN_VALUE}) c.due("30 yes", x.vote(0, 1, bad), Check.OUTSIDE);
        c.due("31 refusals do not count", x.beyond(0), 2);
    }

    private static void shares() {
        MadeTongue x = with(10);
        x.body(1023, 7, 5);
        x.body(1023, 7, 1);
        x.body(7, 7, 3);
        c.due("30 just half", x.vote(0, 0, 31), 1);
        c.due("30 less than half", x.vote(0, 0, 15), 0);
        c.due("30 one of ten", x.vote(1, 0, 512), 1);
        c.due("30 none of ten", x.vote(1, 0, 0), 0);
        c.due("30 one of three is three tenths and more", x.vote(2, 0, 4), 1);
    }

    private static void beyond() {
        MadeTongue x = with(2);
        x.body(3, 0, 5);
        x.body(3, 7, 5);
        c.due("31 none", x.beyond(0), 0);
        for (int act = 0; act < 3; act++) {
            x.vote(0, act, 3);
            x.vote(1, act, 3);
        }
        c.due("31 three", x.beyond(0), 3);
        c.due("31 none of the other", x.beyond(1), 0);
        c.due("31 body", x.beyond(2), Check.UNKNOWN);
        c.due("31 below", x.beyond(-1), Check.UNKNOWN);
    }

    private static void seats() {
        MadeTongue x = with(12);
        x.body(0xf0f, 0, 1);
        c.due("32 one body", x.seats(), 0);
        x.body(0x0ff, 0, 1);
        c.due("32 two", x.seats(), 0x00f);
        x.body(0x801, 0, 1);
        c.due("32 three", x.seats(), 0x80f);
        x.body(0x010, 0, 1);
        c.due("32 four", x.seats(), 0x81f);
    }

    private static void letters() {
        MadeTongue x = with(3);
        c.due("33 at first", x.letters(0, 1, 99), 0);
        c.due("33 the other way round", x.letters(1, 0, 5), 99);
        c.due("33 back", x.letters(0, 1, 0), 5);
        c.due("33 others", x.letters(1, 2, 1), 0);
        c.due("33 first person", x.letters(3, 3, 100), Check.UNKNOWN);
        c.due("33 second person", x.letters(0, -1, 100), Check.UNKNOWN);
        for (int bad : new int[] {-1, 100, Integer.MAX_VALUE}) c.due("33 v", x.letters(1, 2, bad), Check.OUTSIDE);
        c.due("33 both are one", x.letters(1, 1, 1), Check.OUTSIDE);
        c.due("33 refusals changed nothing", x.letters(2, 1, 0), 1);
    }

    private static void part() {
        MadeTongue x = with(5);
        x.letters(0, 2, 5);
        x.letters(2, 3, 4);
        x.letters(3, 1, 5);
        c.due("34 0 with 2; 4 goes with the other", x.part(0, 1, 0), 5);
        c.due("34 the sum", x.part(0, 1, 1), 4);
        c.due("34 the other leader's", x.part(1, 0, 0), 10);
        c.due("34 4 writes to none", x.part(4, 0, 0), 16);
        c.due("34 sum 0", x.part(4, 0, 1), 0);
        c.due("34 all stay with 0", x.part(0, 4, 0), 15);
        x.letters(2, 3, 5);
        c.due("34 of several the least: 0 alone", x.part(0, 1, 0), 1);
        c.due("34 sum 5", x.part(0, 1, 1), 5);
        c.due("34 of several the least: 1 alone", x.part(1, 0, 0), 2);
        c.due("34 first", x.part(5, 5, 9), Check.UNKNOWN);
        c.due("34 second", x.part(0, -1, 9), Check.UNKNOWN);
        for (int bad : new int[] {-1, 2, Integer.MIN_VALUE}) c.due("34 what", x.part(0, 1, bad), Check.OUTSIDE);
        c.due("34 both are one", x.part(1, 1, 0), Check.OUTSIDE);
    }

    private static void partOfTwo() {
        MadeTongue x = with(2);
        x.letters(0, 1, 99);
        c.due("34 two", x.part(0, 1, 0), 1);
        c.due("34 two, the other way", x.part(1, 0, 0), 2);
        c.due("34 what is between", x.part(1, 0, 1), 99);
        MadeTongue y = with(12);
        c.due("34 nothing between: the leader alone", y.part(7, 3, 0), 128);
        c.due("34 nothing between", y.part(7, 3, 1), 0);
    }

    private static void partAtItsLargest() {
        MadeTongue x = with(12);
        for (int p = 0; p < 12; p++) for (int q = 0; q < p; q++) x.letters(p, q, 99);
        c.due("34 all write to all: one alone", x.part(11, 0, 1), 11 * 99);
        c.due("34 the least: the first leader alone", x.part(0, 11, 0), 1);
        c.due("34 the least: the last", x.part(11, 0, 0), 2048);
        MadeTongue y = with(12);
        for (int p = 0; p < 11; p++) y.letters(p, p + 1, p == 6 ? 1 : 9);
        c.due("34 a chain breaks where it is least", y.part(0, 11, 0), 127);
        c.due("34 seen from its end", y.part(11, 0, 0), 4095 - 127);
        c.due("34 one", y.part(11, 0, 1), 1);
        c.due("34 on one side of it", y.part(0, 6, 0), 1);
    }

    private static void uses() {
        MadeTongue x = with(0, "a");
        c.due("35 at first", x.uses(0, 999), 0);
        c.due("35 what it was", x.uses(0, 0), 999);
        c.due("35 root", x.uses(1, 1000), Check.UNKNOWN);
        for (int bad : new int[] {-1, 1000, Integer.MAX_VALUE}) c.due("35 v", x.uses(0, bad), Check.OUTSIDE);
        c.due("35 refusals changed nothing", x.uses(0, 1), 0);
    }

    private static void pair() {
        MadeTongue x = with(0, "a", "b", "c", "d");
        c.due("36 x", x.pair(4, 4), Check.UNKNOWN);
        c.due("36 y", x.pair(0, -1), Check.UNKNOWN);
        c.due("36 both are one", x.pair(2, 2), Check.OUTSIDE);
        c.due("36 first", x.pair(2, 0), 0);
        c.due("36 x is in one", x.pair(0, 1), Check.STATE);
        c.due("36 y is in one", x.pair(1, 2), Check.STATE);
        c.due("36 the same", x.pair(2, 0), Check.STATE);
        c.due("36 both are one ahead of that", x.pair(0, 0), Check.OUTSIDE);
        c.due("36 second", x.pair(1, 3), 1);
        c.due("36 many", x.many(7), 2);
    }

    private static void pairsToTheLast() {
        MadeTongue x = new MadeTongue();
        for (int k = 0; k < 16; k++) c.root(x, 0, 0, String.valueOf((char) ('a' + k)).repeat(k < 8 ? 2 : 4));
        for (int k = 0; k < 8; k++) c.due("36 pair " + k, x.pair(2 * k, 2 * k + 1), k);
        c.due("36 all are in one", x.pair(0, 15), Check.STATE);
        c.due("36 many", x.many(7), 8);
        for (int k = 0; k < 16; k++) x.uses(k, k % 4 == 1 ? 9 : 5);
        // Of 0, 1 the second is used more, of 2, 3 both alike, and so on.
        c.due("37 eight pairs", x.keep(0), 1 + 4 + 16 + 64);
        c.due("37 their sum", x.keep(1), 8 * 5);
    }

    private static void keepWeighs() {
        MadeTongue x = with(0, "aa", "bbb");
        c.due("37 no pairs", x.keep(0), 0);
        c.due("37 their sum", x.keep(1), 0);
        for (int bad : new int[] {-1, 2, Integer.MAX_VALUE}) c.due("37 what", x.keep(bad), Check.OUTSIDE);
        x.pair(0, 1);
        c.due("37 both alike: the least number", x.keep(0), 0);
        x.uses(1, 4);
        c.due("37 y is used", x.keep(0), 1);
        c.due("37 and nothing lost", x.keep(1), 0);
        x.uses(0, 9);
        c.due("37 y's uses are lost", x.keep(1), 4);
        c.due("37 x is kept", x.keep(0), 0);
        for (int p = 0; p < 6; p++) x.person(p % 2);
        // MONTHS: of aa 3 each, of bbb 4 each.
        c.due("37 4 and 6 times 3", x.keep(1), 22);
        c.tongue(x, 0, 1, "bbb");
        c.due("37 or 9 and 3 times 1 and 3 times 4", x.keep(1), 22);
        x.learn(1, 1, true);
        c.due("37 one knows y", x.keep(1), 20);
        c.due("37 y is kept", x.keep(0), 1);
        x.learn(0, 0, true);
        x.learn(2, 0, true);
        c.due("37 two know x", x.keep(1), 16);
        c.due("37 x again", x.keep(0), 0);
    }

    private static void keepApart() {
        String[][] near = {{"ab", "abc"}, {"ab", "b"}, {"ab", "ax"}, {"ab", "xab"}, {"abcd", "abd"}, {"abcd", "bcd"}};
        for (String[] both : near) {
            MadeTongue x = with(0, both[0], "zzzz", both[1], "yyyy");
            x.pair(0, 1);
            x.pair(2, 3);
            x.uses(0, 9);
            x.uses(2, 8);
            c.due("37 " + both[0] + " and " + both[1] + " are not both kept", x.keep(0), 2);
            c.due("37 so the lesser is lost", x.keep(1), 8);
        }
        String[][] far = {{"ab", "ba"}, {"ab", "cd"}, {"ab", "abcd"}, {"abcd", "bcda"}, {"ab", "bc"}, {"a", "aaa"}};
        for (String[] both : far) {
            MadeTongue x = with(0, both[0], "zzzz", both[1], "yyyy");
            x.pair(0, 1);
            x.pair(2, 3);
            c.due("37 " + both[0] + " and " + both[1] + " may be kept", x.keep(0), 0);
        }
        MadeTongue x = with(0, "a", "aa", "b", "bb");
        x.pair(0, 1);
        c.due("37 of one pair only one is kept", x.keep(0), 0);
        x.pair(2, 3);
        c.due("37 a and b are near", x.keep(0), 1);
        c.root(x, 0, 0, "ab");
        c.root(x, 0, 0, "c");
        x.pair(4, 5);
        c.due("37 aa bb c", x.keep(0), 7);
        x = with(0, "a", "b", "c", "d");
        x.pair(0, 1);
        c.due("37 near, but of one pair", x.keep(0), 0);
        x.pair(2, 3);
        c.due("37 no way", x.keep(0), Check.NONE);
        c.due("37 no sum either", x.keep(1), Check.NONE);
    }

    private static void keepIsLeast() {
        MadeTongue x = with(0, "aaa", "bbb", "ccc", "ddd", "eee");
        x.pair(1, 0);
        x.pair(3, 2);
        x.uses(4, 500);
        c.due("37 roots of no pair do not count", x.keep(1), 0);
        x.uses(2, 1);
        c.due("37 bit 1 is of pair 1", x.keep(0), 2);
        x.uses(0, 1);
        c.due("37 both", x.keep(0), 3);
        x.uses(1, 1);
        c.due("37 as good: the lesser number", x.keep(0), 2);
        c.due("37 the sum is one", x.keep(1), 1);
    }
}
