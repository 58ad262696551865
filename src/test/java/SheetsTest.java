/** Promises 45 to 55: SHEETS, TELLING, kinds, TRACE, FAULTS, how many. */
public final class SheetsTest {
    private static final Check c = new Check();
    private static final int BIG = Integer.MAX_VALUE, LOW = Integer.MIN_VALUE;

    public static void main(String[] args) {
        sheet();
        longestRows();
        lose();
        put();
        cell();
        copy();
        copyIsRefused();
        tell();
        say();
        as();
        trace();
        fault();
        many();
        constants();
        c.end("SheetsTest");
    }

    private static void sheet() {
        MadeTongue x = new MadeTongue();
        c.due("45 one", x.sheet(0, 0, 60), 1);
        c.due("45 of none", x.sheet(3, 2, 0), 1);
        for (int bad : new int[] {-1, 4, BIG, LOW}) c.due("45 sheet", x.sheet(bad, 9, 99), Check.UNKNOWN);
        for (int bad : new int[] {-1, 3, BIG, LOW}) c.due("45 lane", x.sheet(0, bad, -1), Check.OUTSIDE);
        c.due("45 above 60", x.sheet(0, 0, 61), Check.OUTSIDE);
        c.due("45 far above", x.sheet(0, 0, BIG), Check.OUTSIDE);
        c.due("45 fault of a refusal", x.fault(), 0);
        c.due("45 size", x.sheet(0, 0, -1), Check.SIZE);
        c.due("45 fault", x.fault(), 4);
        c.due("45 size at its lowest", x.sheet(0, 0, LOW), Check.SIZE);
        c.due("45 they changed nothing", x.cell(0, 59, 0), 0);
        x.put(0, 59, 7);
        c.due("45 a new row", x.sheet(0, 1, 60), 1);
        c.due("45 of zeros", x.cell(0, 59, 1), 0);
        x.put(0, 5, 7);
        x.sheet(0, 1, 2);
        x.sheet(0, 1, 10);
        c.due("45 of zeros, where a shorter one was", x.cell(0, 5, 1), 0);
        for (int k = 0; k < 4; k++) c.lay(x, k, 2, k + 1);
        for (int k = 0; k < 4; k++) {
            x.sheet(k, 2, 60);
            for (int other = k + 1; other < 4; other++) c.due("45 others stay", x.cell(other, 0, 2), other + 1);
        }
    }

    private static void longestRows() {
        MadeTongue x = new MadeTongue();
        int[] text = new int[60];
        for (int i = 0; i < 60; i++) text[i] = "n+n,".charAt(i % 4);
        c.lay(x, 3, 2, text);
        c.due("5 sixty codes: one clause too many", x.rule(-1, 0, 0, 3, 2, 0, 60), -115);
        c.due("5 sixty-one", x.rule(-1, 0, 0, 3, 2, 0, 61), Check.INDEX);
        c.due("9 sixty cells", x.ways(3, 2, 0, 60), Check.OUTSIDE);
        c.due("2 sixty cells", x.root(0, 0, 3, 2, 0, 60), Check.OUTSIDE);
        c.due("13 twenty rows", x.sentence(3, 2, 0, 20), Check.OUTSIDE);
        c.due("13 twenty-one rows", x.sentence(3, 2, 0, 21), Check.INDEX);
        c.due("49 sixty cells", x.copy(3, 0, 3, 0, 60), 60);
        c.due("48 the last", x.cell(3, 59, 2), ',');
    }

    private static void lose() {
        MadeTongue x = new MadeTongue();
        c.due("46 had nothing", x.lose(0), 0);
        x.sheet(0, 0, 0);
        c.due("46 had a row of none", x.lose(0), 1);
        c.due("46 again", x.lose(0), 0);
        for (int bad : new int[] {-1, 4, BIG, LOW}) c.due("46 sheet", x.lose(bad), Check.UNKNOWN);
        x.sheet(1, 2, 1);
        x.put(1, 0, 5);
        c.due("46 one of them", x.lose(1), 1);
        c.due("46 it has nothing", x.put(1, 0, 5), Check.NULL);
        x.sheet(1, 2, 1);
        c.due("46 zeros again", x.cell(1, 0, 2), 0);
    }

    private static void put() {
        MadeTongue x = new MadeTongue();
        c.due("47 sheet", x.put(4, 0, 0), Check.UNKNOWN);
        c.due("47 null ahead of index", x.put(0, -1, 0), Check.NULL);
        c.due("47 fault", x.fault(), 1);
        x.sheet(0, 2, 2);
        c.due("47 index below", x.put(0, -1, 0), Check.INDEX);
        c.due("47 index beyond", x.put(0, 2, 0), Check.INDEX);
        c.due("47 index far", x.put(0, BIG, 0), Check.INDEX);
        c.due("47 fault index", x.fault(), 3);
        c.due("47 well", x.put(0, 1, LOW), 1);
        c.due("47 no fault", x.fault(), 0);
        c.due("47 the cell", x.cell(0, 1, 2), LOW);
        c.due("47 the other one", x.cell(0, 0, 2), 0);
        int[] values = {127, 128, -128, -129, 255, 256, 32767, 32768, 65535, 65536, -32769, BIG, LOW, -1};
        x.sheet(1, 0, 1);
        x.sheet(2, 1, 1);
        x.sheet(3, 2, 1);
        for (int v : values) {
            for (int k = 1; k < 4; k++) c.due("47 put " + v, x.put(k, 0, v), 1);
            c.due("47 byte of " + v, x.cell(1, 0, 0), (byte) v);
            c.due("47 short of " + v, x.cell(2, 0, 1), (short) v);
            c.due("47 int of " + v, x.cell(3, 0, 2), v);
        }
    }

    private static void cell() {
        MadeTongue x = new MadeTongue();
        x.sheet(0, 1, 3);
        x.put(0, 2, -5);
        c.due("48 well", x.cell(0, 2, 1), -5);
        long[][] due = {{4, 0, 1, 0}, {-1, 0, 1, 0}, {0, 0, 3, 0}, {0, 0, -1, 0}, {0, 9, 0, 2}, {0, 9, 2, 2}, {1, 9, 2, 1},
            {0, 3, 1, 3}, {0, -1, 1, 3}, {0, BIG, 1, 3}, {0, LOW, 1, 3}};
        for (long[] at : due) {
            String told = "48 cell(" + at[0] + ", " + at[1] + ", " + at[2] + ")";
            x.put(1, 0, 0);
            c.due(told, x.cell((int) at[0], (int) at[1], (int) at[2]), Check.LOST);
            c.due(told + " fault", x.fault(), at[3]);
        }
        c.due("48 well again", x.cell(0, 0, 1), 0);
        c.due("48 no fault", x.fault(), 0);
    }

    private static String cells(MadeTongue x, int k, int lane, int n) {
        StringBuilder row = new StringBuilder();
        for (int i = 0; i < n; i++) row.append(i == 0 ? "" : " ").append(x.cell(k, i, lane));
        return row.toString();
    }

    private static void copy() {
        MadeTongue x = new MadeTongue();
        c.lay(x, 0, 1, 1, 2, 3, 4, 5);
        c.lay(x, 1, 1, 0, 0, 0);
        c.due("49 two", x.copy(0, 3, 1, 1, 2), 2);
        c.due("49 they came", "0 4 5".equals(cells(x, 1, 1, 3)));
        c.due("49 the first is as it was", "1 2 3 4 5".equals(cells(x, 0, 1, 5)));
        c.due("49 forward in one", x.copy(0, 0, 0, 1, 4), 4);
        c.due("49 as they were", "1 1 2 3 4".equals(cells(x, 0, 1, 5)));
        c.due("49 back in one", x.copy(0, 2, 0, 0, 3), 3);
        c.due("49 as they were, too", "2 3 4 3 4".equals(cells(x, 0, 1, 5)));
        c.due("49 none, at both ends", x.copy(0, 5, 1, 3, 0), 0);
        c.due("49 all", x.copy(1, 0, 0, 0, 3), 3);
        c.due("49 all came", "0 4 5 3 4".equals(cells(x, 0, 1, 5)));
    }

    private static void copyIsRefused() {
        MadeTongue x = new MadeTongue();
        c.due("49 first sheet", x.copy(4, 0, 0, 0, 0), Check.UNKNOWN);
        c.due("49 other sheet", x.copy(0, 0, -1, 0, 0), Check.UNKNOWN);
        c.due("49 null both", x.copy(0, -1, 1, -1, -1), Check.NULL);
        c.lay(x, 0, 0, 1, 2);
        c.due("49 null other", x.copy(0, -1, 1, 0, 0), Check.NULL);
        c.due("49 null first", x.copy(1, -1, 0, 0, 0), Check.NULL);
        c.due("49 fault", x.fault(), 1);
        c.lay(x, 1, 1, 3, 4);
        c.due("49 cast ahead of index", x.copy(0, -1, 1, -1, -1), Check.CAST);
        c.due("49 cast of none", x.copy(0, 0, 1, 0, 0), Check.CAST);
        c.due("49 fault cast", x.fault(), 2);
        c.lay(x, 1, 0, 3, 4, 5);
        int[][] bad = {{-1, 0, 0}, {0, -1, 0}, {0, 0, -1}, {3, 0, 0}, {0, 4, 0}, {1, 0, 2}, {0, 2, 2}, {0, 0, 3},
            {BIG, 0, 1}, {0, BIG, 1}, {0, 0, BIG}, {1, 1, BIG}, {LOW, 0, 0}, {0, 0, LOW}};
        for (int[] at : bad) {
            c.due("49 index " + at[0] + " " + at[1] + " " + at[2], x.copy(0, at[0], 1, at[1], at[2]), Check.INDEX);
            c.due("49 fault index", x.fault(), 3);
        }
        c.due("49 they changed nothing", "3 4 5".equals(cells(x, 1, 0, 3)));
        c.due("49 well", x.copy(0, 0, 1, 1, 2), 2);
        c.due("49 no fault", x.fault(), 0);
    }

    private static MadeTongue ofThreeKinds() {
        MadeTongue x = new MadeTongue();
        c.root(x, 0, 3, "abc");
        c.root(x, 1, 2, "ab");
        c.root(x, 2, 3, "abcd");
        return x;
    }

    private static int traced(int trace, int... numbers) {
        for (int number : numbers) trace = 31 * trace + number;
        return trace;
    }

    private static void tell() {
        MadeTongue x = ofThreeKinds();
        c.due("50 root", x.tell(0), 3);
        c.due("53 root", x.trace(), 1);
        c.due("50 loan", x.tell(1), 2 + 2 + 10);
        c.due("53 loan", x.trace(), traced(0, 1, 2, 1));
        c.due("50 blend", x.tell(2), 4 + 3 + 10 + 4);
        c.due("53 blend", x.trace(), traced(0, 1, 2, 1, 3, 2, 1, 1));
        c.due("50 none", x.tell(3), Check.UNKNOWN);
        c.due("50 below", x.tell(-1), Check.UNKNOWN);
        c.due("53 refusals leave nothing", x.trace(), traced(0, 1, 2, 1, 3, 2, 1, 1));
    }

    private static void say() {
        MadeTongue x = ofThreeKinds();
        c.due("51 root", x.say(0), 0);
        c.due("51 loan", x.say(1), 1);
        c.due("53 lent", x.trace(), traced(0, 4, 4));
        c.due("51 blend", x.say(2), 70);
        c.due("53 its own", x.trace(), traced(0, 4, 4, 5));
        c.due("51 none", x.say(3), Check.UNKNOWN);
        c.due("51 below", x.say(LOW), Check.UNKNOWN);
        c.due("53 refusals leave nothing", x.trace(), traced(0, 4, 4, 5));
    }

    private static void as() {
        MadeTongue x = ofThreeKinds();
        for (int root = 0; root < 3; root++) {
            for (int kind = 0; kind < 3; kind++) {
                boolean is = root >= kind;
                c.due("52 " + root + " as " + kind, x.as(root, kind), is ? 1 : Check.CAST);
                c.due("52 fault", x.fault(), is ? 0 : 2);
            }
        }
        x.as(0, 2);
        c.due("52 root ahead of kind", x.as(3, 9), Check.UNKNOWN);
        c.due("52 fault of a refusal", x.fault(), 0);
        for (int bad : new int[] {-1, 3, BIG, LOW}) c.due("52 kind", x.as(2, bad), Check.OUTSIDE);
    }

    private static void trace() {
        MadeTongue x = ofThreeKinds();
        int due = 0;
        for (int k = 0; k < 40; k++) {
            x.tell(2);
            due = traced(due, 3, 2, 1, 1);
            c.due("53 it wraps", x.trace(), due);
        }
    }

    private static void fault() {
        MadeTongue x = new MadeTongue();
        c.due("54 ahead of any", x.fault(), 0);
        x.put(0, 0, 0);
        c.due("54 null", x.fault(), 1);
        c.due("54 told twice", x.fault(), 1);
        // These name no FAULTS: what fault() tells stays.
        x.lose(9);
        x.lose(0);
        x.stand(9, 9);
        x.month();
        x.many(99);
        x.tell(0);
        x.trace();
        x.ofRoot(0, 0);
        x.two(99);
        x.person(0);
        x.easy(9, 9);
        x.mean(9, 9, 9, 9);
        x.world(0, 0);
        c.due("54 by calls that name one alone", x.fault(), 1);
        // Each of these names FAULTS, and is refused or well: fault() tells 0.
        for (int call = 0; call < 14; call++) {
            x.put(3, 0, 0);
            c.due("54 null again", x.fault(), 1);
            refusedOrWell(x, call);
            c.due("54 behind call " + call, x.fault(), 0);
        }
    }

    private static void refusedOrWell(MadeTongue x, int call) {
        switch (call) {
            case 0: x.root(0, 0, 9, 0, 0, 1); break;
            case 1: x.ending(0, 0, 9, 0, 0, 1); break;
            case 2: x.rule(0, 0, 0, 9, 0, 0, 1); break;
            case 3: x.ways(9, 0, 0, 1); break;
            case 4: x.parse(0, 0, 0, 1, 20); break;
            case 5: x.sentence(9, 0, 0, 1); break;
            case 6: x.tongue(0, 99, 0, 0, 0, 1); break;
            case 7: x.reform(99, 0, 0, 0, 0, 1); break;
            case 8: x.sheet(0, 0, 61); break;
            case 9: x.sheet(0, 0, 5); break;
            case 10: x.put(0, 0, 5); break;
            case 11: x.cell(0, 0, 0); break;
            case 12: x.copy(0, 0, 0, 1, 2); break;
            default: x.as(99, 0);
        }
    }

    private static void many() {
        MadeTongue x = new MadeTongue();
        for (int p = 0; p < 3; p++) x.person(0);
        c.root(x, 0, 0, "a");
        c.root(x, 0, 0, "b");
        c.ending(x, 0, 0, "a");
        c.rule(x, 0, 0, 0, "n+n");
        c.sentence(x, 0, 0, 0);
        x.journal(0, 0);
        x.body(1, 1, 1);
        x.pair(0, 1);
        x.session(0);
        x.month();
        x.month();
        x.road(0, 1, true);
        int[] due = {2, 1, 1, 1, 3, 1, 1, 1, 1, 2, 1};
        for (int what = 0; what < due.length; what++) c.due("55 many " + what, x.many(what), due[what]);
        for (int bad : new int[] {-1, 11, BIG, LOW}) c.due("55 what", x.many(bad), Check.OUTSIDE);
    }

    private static void constants() {
        int[] got = {MadeTongue.UNKNOWN, MadeTongue.OUTSIDE, MadeTongue.STATE, MadeTongue.FULL, MadeTongue.NONE};
        int[] due = {-1, -2, -3, -4, -9};
        for (int k = 0; k < due.length; k++) c.due("constant " + k, got[k], due[k]);
        c.due("LOST", MadeTongue.LOST, Long.MIN_VALUE);
    }
}
