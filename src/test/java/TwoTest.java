import java.util.Random;

/**
 * Promise 11 on many vocabularies, with words that overlap much: the least word that is two, as PlainTongue finds it. Some
 * have all the ROOTS and ENDINGS there may be, with many ENDINGS alike: a search that tries WAYS one by one is slow there.
 */
public final class TwoTest {
    private static final Check c = new Check();
    private static final int[] FOUND = new int[13];

    private static void lay(MadeTongue x, PlainTongue y, int[] row) {
        x.sheet(0, 2, row.length);
        y.sheet(0, 2, row.length);
        for (int i = 0; i < row.length; i++) {
            x.put(0, i, row[i]);
            y.put(0, i, row[i]);
        }
    }

    private static int[] word(Random random, int least, int most, int letters) {
        int[] row = new int[least + random.nextInt(most - least + 1)];
        for (int i = 0; i < row.length; i++) row[i] = 1 + random.nextInt(letters);
        return row;
    }

    private static void vocabulary(int seed) {
        Random random = new Random(seed);
        MadeTongue x = new MadeTongue();
        PlainTongue y = new PlainTongue();
        boolean full = seed % 6 == 5;
        int least = 1 + random.nextInt(4), letters = 1 + random.nextInt(4), classes = 1 + random.nextInt(4);
        int roots = full ? 40 : 2 + random.nextInt(15), endings = full ? 8 : random.nextInt(2) == 0 ? 0 : random.nextInt(9);
        for (int k = 0; k < roots; k++) {
            int[] row = word(random, random.nextInt(5) == 0 ? 1 : least, 4, letters);
            int cls = random.nextInt(classes);
            lay(x, y, row);
            c.due("root", x.root(0, cls, 0, 2, 0, row.length), y.root(0, cls, 0, 2, 0, row.length));
        }
        for (int k = 0; k < endings; k++) {
            int[] row = word(random, 1, 2, letters);
            int from = random.nextInt(full ? classes : 4), to = random.nextInt(full ? classes : 4);
            lay(x, y, row);
            c.due("ending", x.ending(from, to, 0, 2, 0, row.length), y.ending(from, to, 0, 2, 0, row.length));
        }
        for (int k = random.nextInt(full ? 11 : 5); k > 0; k--) {
            int[] text = {"nvao".charAt(random.nextInt(classes)), '+', "nvao".charAt(random.nextInt(classes))};
            lay(x, y, text);
            c.due("rule", x.rule(-1, 0, 9, 0, 2, 0, 3), y.rule(-1, 0, 9, 0, 2, 0, 3));
        }
        int size = y.two(-1);
        FOUND[Math.max(size, 0)]++;
        c.due(seed + " two(-1)", x.two(-1), size);
        for (int k = 0; k < 12; k++) c.due(seed + " two(" + k + ")", x.two(k), k < size ? y.two(k) : Check.NONE);
    }

    public static void main(String[] args) {
        int runs = args.length > 0 ? Integer.parseInt(args[0]) : 3000;
        for (int seed = 0; seed < runs; seed++) vocabulary(seed);
        for (int size = 2; size <= 8; size++) c.due("some are of " + size, FOUND[size] > 0);
        c.end("TwoTest");
    }
}
