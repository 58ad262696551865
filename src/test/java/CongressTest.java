/** Promises 38 to 44: SESSIONS, the TABLE, POSTS. */
public final class CongressTest {
    private static final Check c = new Check();

    public static void main(String[] args) {
        session();
        hall();
        table();
        tableIsFirst();
        tableOfThreeTurns();
        road();
        forbid();
        letter();
        letterPastThoseThatForbid();
        round();
        c.end("CongressTest");
    }

    private static MadeTongue with(int persons, int... sessions) {
        MadeTongue x = new MadeTongue();
        for (int p = 0; p < persons; p++) x.person(0);
        for (int set : sessions) x.session(set);
        return x;
    }

    private static String tabled(MadeTongue x) {
        StringBuilder row = new StringBuilder();
        for (int s = 0; s < x.many(8); s++) row.append(x.table(s));
        return row.toString();
    }

    private static void session() {
        MadeTongue x = with(3);
        for (int bad : new int[] {8, -1, Integer.MIN_VALUE, 9}) c.due("38 wanted", x.session(bad), Check.OUTSIDE);
        for (int s = 0; s < 6; s++) c.due("38 session " + s, x.session(s), s);
        c.due("38 full", x.session(0), Check.FULL);
        c.due("38 outside ahead of full", x.session(8), Check.OUTSIDE);
        c.due("38 many", x.many(8), 6);
    }

    private static void hall() {
        MadeTongue x = with(1, 1, 1, 1, 1, 1);
        c.due("39 two turns of two rooms at first", x.table(-1), Check.NONE);
        c.due("39 as large as it can be", x.hall(3, 4), 1);
        c.due("39 the same", x.hall(3, 4), 1);
        c.due("39 then there is a table", x.table(-1), 3);
        for (int bad : new int[] {0, 4, -1, Integer.MAX_VALUE}) c.due("39 turns", x.hall(bad, 1), Check.OUTSIDE);
        for (int bad : new int[] {0, 5, -1, Integer.MAX_VALUE}) c.due("39 rooms", x.hall(1, bad), Check.OUTSIDE);
        c.due("39 refusals changed nothing", x.table(-1), 3);
    }

    private static void table() {
        MadeTongue x = with(4);
        c.due("40 no sessions", x.table(-1), 0);
        c.due("40 no such", x.table(0), Check.UNKNOWN);
        c.due("40 below", x.table(-2), Check.UNKNOWN);
        c.due("40 lowest", x.table(Integer.MIN_VALUE), Check.UNKNOWN);
        x.session(3);
        c.due("40 one", x.table(-1), 2);
        c.due("40 in the first turn", x.table(0), 0);
        x.session(1);
        c.due("40 0 hears both", x.table(-1), 3);
        c.due("40 in two turns", "01".equals(tabled(x)));
        x.session(2);
        c.due("40 all is heard", x.table(-1), 4);
        c.due("40 those that none shares together", "011".equals(tabled(x)));
        x.hall(1, 3);
        c.due("40 one turn: each but once", x.table(-1), 2);
        c.due("40 one turn", "000".equals(tabled(x)));
        x.hall(1, 2);
        c.due("40 no room", x.table(-1), Check.NONE);
        for (int s = 0; s < 3; s++) c.due("40 no room for " + s, x.table(s), Check.NONE);
        c.due("40 unknown ahead of that", x.table(3), Check.UNKNOWN);
        x.hall(3, 1);
        c.due("40 one room", "012".equals(tabled(x)));
    }

    private static void tableIsFirst() {
        MadeTongue x = with(2, 0, 0, 0);
        c.due("40 none wants any: the first row that has room", "001".equals(tabled(x)));
        c.due("40 none is heard", x.table(-1), 0);
        MadeTongue y = with(4, 1, 2, 1, 2);
        c.due("40 alike apart, first 0 0", "0011".equals(tabled(y)));
        c.due("40 four", y.table(-1), 4);
    }

    private static void tableOfThreeTurns() {
        MadeTongue x = with(12, 0xfff, 0xfff, 0xfff, 0x00f, 0x0f0, 0xf00);
        x.hall(3, 2);
        c.due("40 three times twelve", x.table(-1), 36);
        c.due("40 the great ones apart", "012012".equals(tabled(x)));
        x.hall(2, 3);
        c.due("40 two turns", x.table(-1), 24);
        c.due("40 the small ones are as good as a great one", "000111".equals(tabled(x)));
        x.hall(2, 4);
        c.due("40 with more room", "000111".equals(tabled(x)));
    }

    private static void road() {
        MadeTongue x = new MadeTongue();
        c.due("41 none to take away", x.road(0, 9, false), 0);
        c.due("41 one", x.road(0, 9, true), 1);
        c.due("41 it is there", x.road(0, 9, true), 0);
        c.due("41 from both ends", x.road(9, 0, true), 0);
        c.due("55 roads", x.many(10), 1);
        c.due("41 away", x.road(9, 0, false), 1);
        c.due("41 it is gone", x.road(0, 9, false), 0);
        c.due("55 none", x.many(10), 0);
        for (int bad : new int[] {-1, 10, Integer.MAX_VALUE, Integer.MIN_VALUE}) {
            c.due("41 a", x.road(bad, 0, true), Check.UNKNOWN);
            c.due("41 b", x.road(0, bad, true), Check.UNKNOWN);
            c.due("41 both", x.road(bad, bad, true), Check.UNKNOWN);
        }
        c.due("41 both are one", x.road(4, 4, true), Check.OUTSIDE);
    }

    private static void forbid() {
        MadeTongue x = new MadeTongue();
        c.due("42 none at first", x.forbid(1023), 0);
        c.due("42 what it was", x.forbid(0), 1023);
        for (int bad : new int[] {-1, 1024, Integer.MAX_VALUE}) c.due("42 set", x.forbid(bad), Check.OUTSIDE);
        c.due("42 refusals changed nothing", x.forbid(5), 0);
    }

    private static void letter() {
        MadeTongue x = new MadeTongue();
        for (int a = 0; a < 9; a++) x.road(a, a + 1, true);
        for (int b = 0; b < 10; b++) c.due("43 along a chain", x.letter(0, b), b);
        c.due("43 back", x.letter(9, 0), 9);
        x.road(2, 7, true);
        c.due("43 a shorter way", x.letter(0, 9), 5);
        c.due("43 in between", x.letter(0, 5), 5);
        c.due("43 by either way", x.letter(0, 6), 4);
        x.road(2, 7, false);
        x.road(4, 5, false);
        c.due("43 broken", x.letter(0, 9), Check.NONE);
        c.due("43 one with itself", x.letter(3, 3), 0);
        for (int bad : new int[] {-1, 10, Integer.MIN_VALUE}) {
            c.due("43 a", x.letter(bad, 0), Check.UNKNOWN);
            c.due("43 b", x.letter(0, bad), Check.UNKNOWN);
        }
    }

    private static void letterPastThoseThatForbid() {
        MadeTongue x = new MadeTongue();
        x.road(0, 1, true);
        x.road(1, 2, true);
        x.road(0, 3, true);
        x.road(3, 4, true);
        x.road(4, 2, true);
        c.due("43 by 1", x.letter(0, 2), 2);
        x.forbid(2);
        c.due("43 past 1", x.letter(0, 2), 3);
        c.due("43 to one that forbids", x.letter(0, 1), 1);
        c.due("43 from one that forbids", x.letter(1, 2), 1);
        c.due("43 from one that forbids, farther", x.letter(1, 4), 2);
        x.forbid(2 + 16);
        c.due("43 no way past", x.letter(0, 2), Check.NONE);
        c.due("43 up to the one that forbids", x.letter(0, 4), 2);
        x.forbid(1 + 4);
        c.due("43 both ends may forbid", x.letter(0, 2), 2);
        c.due("43 one that forbids with itself", x.letter(0, 0), 0);
        x.forbid(1023);
        c.due("43 all forbid: one road", x.letter(0, 1), 1);
        c.due("43 all forbid: two roads", x.letter(0, 2), Check.NONE);
    }

    private static void round() {
        MadeTongue x = new MadeTongue();
        c.due("44 alone", x.round(9), 1);
        for (int a = 0; a < 9; a++) x.road(a, a + 1, true);
        c.due("44 all", x.round(0), 10);
        c.due("44 all from the middle", x.round(4), 10);
        x.forbid(1 << 4);
        c.due("44 up to 4", x.round(0), 5);
        c.due("44 back to 4", x.round(9), 6);
        c.due("44 4 itself", x.round(4), 10);
        x.forbid(1023);
        c.due("44 next ones only", x.round(4), 3);
        c.due("44 next one only", x.round(0), 2);
        for (int bad : new int[] {-1, 10, Integer.MAX_VALUE}) c.due("44 a", x.round(bad), Check.UNKNOWN);
    }
}
