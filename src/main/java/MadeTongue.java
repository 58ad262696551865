/**
 * A tongue that was made: its words, what its clubs mean by them, who learns them, who votes on them,
 * who parts over them, and how its people meet and write. Every call answers a number; a refusal or a
 * FAULT is a number too (LOST, where a long is answered) and changes nothing but fault().
 */
public final class MadeTongue {
    public static final int UNKNOWN = -1, OUTSIDE = -2, STATE = -3, FULL = -4, NONE = -9;
    public static final long LOST = Long.MIN_VALUE;

    private static final int NO_FAULT = 0, NULL = 1, CAST = 2, INDEX = 3, SIZE = 4;
    private static final int FAULT_BASE = -10, TEXT_BASE = -100;
    private static final int CLASSES = 4, CLUBS = 4, YEARS = 1000;
    private static final int ROOT = 0, LOAN = 1, BLEND = 2;

    private final Sheets sheets;
    private final Words words;
    private final Rules rules;
    private final Ways rows;
    private final Two twins;
    private final Meanings meanings;
    private final People people;
    private final Bodies bodies;
    private final Doubles doubles;
    private final Congress congress;
    private final Posts posts;
    private int latestFault;
    private int traced;

    public MadeTongue() {
        Words made = new Words();
        words = made;
        rows = new Ways(made);
        twins = new Two(made);
        sheets = new Sheets();
        rules = new Rules();
        meanings = new Meanings();
        people = new People();
        bodies = new Bodies();
        doubles = new Doubles();
        congress = new Congress();
        posts = new Posts();
        latestFault = NO_FAULT;
        traced = 0;
    }

    // ---- 1 words

    public int root(int kind, int cls, int sheet, int lane, int i, int n) {
        latestFault = NO_FAULT;
        if (!Sheets.isSheet(sheet)) return UNKNOWN;
        if (kind < ROOT || kind > BLEND || !isClass(cls) || !Sheets.isLane(lane)) return OUTSIDE;
        int failed = reaching(sheet, lane, i, n, 1);
        if (failed != 0) return failed;
        if (n < 1 || n > Words.LONGEST || !sheets.areLetters(sheet, i, n)) return OUTSIDE;
        int code = sheets.codeOf(sheet, i, n);
        if (words.hasRootOf(code)) return STATE;
        if (words.roots() >= Words.ROOTS) return FULL;
        return words.addRoot(kind, cls, code, n);
    }

    public int ending(int from, int to, int sheet, int lane, int i, int n) {
        latestFault = NO_FAULT;
        if (!Sheets.isSheet(sheet)) return UNKNOWN;
        if (!isClass(from) || !isClass(to) || !Sheets.isLane(lane)) return OUTSIDE;
        int failed = reaching(sheet, lane, i, n, 1);
        if (failed != 0) return failed;
        if (n < 1 || n > Words.LONGEST_ENDING || !sheets.areLetters(sheet, i, n)) return OUTSIDE;
        if (words.endings() >= Words.ENDINGS) return FULL;
        return words.addEnding(from, to, sheets.codeOf(sheet, i, n), n);
    }

    public int ofRoot(int x, int what) {
        if (!words.isRoot(x)) return UNKNOWN;
        switch (what) {
            case 0: return words.kindOf(x);
            case 1: return words.classAfter(x);
            case 2: return words.sizeOf(x);
            case 3: return doubles.usesOf(x);
            case 4: return doubles.pairOf(x);
            default:
                if (what < 5 || what >= 5 + words.sizeOf(x)) return OUTSIDE;
                return Words.letterAt(words.codeOf(x), what - 5);
        }
    }

    public int rule(int club, int from, int to, int sheet, int lane, int i, int n) {
        latestFault = NO_FAULT;
        if (!Sheets.isSheet(sheet)) return UNKNOWN;
        if (club < Rules.ALL_CLUBS || club >= CLUBS) return OUTSIDE;
        if (!isYear(from) || !isYear(to) || to < from || !Sheets.isLane(lane)) return OUTSIDE;
        int failed = reaching(sheet, lane, i, n, 1);
        if (failed != 0) return failed;
        int place = rules.firstFault(sheets, sheet, i, n);
        if (place != Rules.NO_PLACE) return TEXT_BASE - place;
        if (rules.isFull()) return FULL;
        return rules.addRead(club, from, to);
    }

    public int stand(int club, int year) {
        if (!isClub(club) || !isYear(year)) return OUTSIDE;
        return rules.moveTo(club, year) ? 1 : 0;
    }

    public int may(int x, int y) {
        if (!isClass(x) || !isClass(y)) return OUTSIDE;
        return Rules.areJoined(rules.joined(), x, y) ? 1 : 0;
    }

    public int why(int x, int y) {
        if (!isClass(x) || !isClass(y)) return OUTSIDE;
        return rules.tellerOf(x, y);
    }

    public int ways(int sheet, int lane, int i, int n) {
        int refused = rowRefusal(sheet, lane, i, n);
        if (refused != 0) return refused;
        rows.read(sheets, sheet, i, n, rules.joined());
        return rows.countAll();
    }

    public int parse(int sheet, int lane, int i, int n, int k) {
        latestFault = NO_FAULT;
        if (k < 0 || k >= Ways.LONGEST) return UNKNOWN;
        int refused = rowRefusal(sheet, lane, i, n);
        if (refused != 0) return refused;
        rows.read(sheets, sheet, i, n, rules.joined());
        return rows.firstWayAt(k);
    }

    public int two(int k) {
        if (k < -1 || k >= Two.LONGEST) return UNKNOWN;
        twins.lookUnder(rules.joined());
        return k < 0 ? twins.lettersOrNone() : twins.letterOrNone(k);
    }

    // ---- 2 meanings

    public int mean(int club, int x, int has, int not) {
        if (!words.isRoot(x)) return UNKNOWN;
        if (!isClub(club) || !Meanings.isFeatures(has) || !Meanings.isFeatures(not)) return OUTSIDE;
        return meanings.change(club, x, has, not);
    }

    public int sentence(int sheet, int lane, int i, int n) {
        latestFault = NO_FAULT;
        if (!Sheets.isSheet(sheet)) return UNKNOWN;
        if (!Sheets.isLane(lane)) return OUTSIDE;
        int failed = reaching(sheet, lane, i, n, Meanings.WIDTH);
        if (failed != 0) return failed;
        if (n < 1 || n > Meanings.CLAUSES || !Meanings.areSorts(sheets, sheet, i, n)) return OUTSIDE;
        if (!Meanings.areRoots(words, sheets, sheet, i, n)) return UNKNOWN;
        if (meanings.sentences() >= Meanings.SENTENCES) return FULL;
        return meanings.addSentence(sheets, sheet, i, n);
    }

    public int world(int number, int k) {
        if (!Meanings.isWorld(number) || k < 0 || k >= Meanings.THINGS) return OUTSIDE;
        return meanings.thingOrNone(number, k);
    }

    public int isTrue(int sentence, int club, int world) {
        if (!meanings.isSentence(sentence)) return UNKNOWN;
        if (!isClub(club) || !Meanings.isWorld(world)) return OUTSIDE;
        return meanings.holds(sentence, club, world) ? 1 : 0;
    }

    public int differ(int sentence, int club, int other) {
        if (!meanings.isSentence(sentence)) return UNKNOWN;
        if (!isClub(club) || !isClub(other)) return OUTSIDE;
        return meanings.leastDiffering(sentence, club, other);
    }

    public int worlds(int sentence, int club) {
        if (!meanings.isSentence(sentence)) return UNKNOWN;
        if (!isClub(club)) return OUTSIDE;
        return meanings.countTrue(sentence, club);
    }

    // ---- 3 persons, journals

    public int person(int first) {
        if (!Words.isTongue(first)) return OUTSIDE;
        if (people.count() >= People.PERSONS) return FULL;
        return people.add(first);
    }

    public int tongue(int t, int x, int sheet, int lane, int i, int n) {
        latestFault = NO_FAULT;
        if (!words.isRoot(x) || !Sheets.isSheet(sheet)) return UNKNOWN;
        if (!Words.isTongue(t) || !Sheets.isLane(lane)) return OUTSIDE;
        int failed = reaching(sheet, lane, i, n, 1);
        if (failed != 0) return failed;
        if (n > Words.LONGEST || !sheets.areLetters(sheet, i, n)) return OUTSIDE;
        words.changeAbroad(t, x, sheets.codeOf(sheet, i, n));
        return n;
    }

    public int easy(int p, int x) {
        if (!people.isPerson(p) || !words.isRoot(x)) return UNKNOWN;
        return words.monthsFrom(people.firstOf(p), x);
    }

    public int learn(int p, int x, boolean is) {
        if (!people.isPerson(p) || !words.isRoot(x)) return UNKNOWN;
        return people.change(p, x, is) ? 1 : 0;
    }

    public int knows(int p) {
        return people.isPerson(p) ? people.rootsOf(p) : UNKNOWN;
    }

    public long reform(int x, int what, int sheet, int lane, int i, int n) {
        latestFault = NO_FAULT;
        if (!words.isRoot(x) || !Sheets.isSheet(sheet)) return LOST;
        if (!Sheets.isLane(lane) || what < 0 || what > 1) return LOST;
        if (reaching(sheet, lane, i, n, 1) != 0) return LOST;
        if (n < 1 || n > Words.LONGEST || !sheets.areLetters(sheet, i, n)) return LOST;
        int code = sheets.codeOf(sheet, i, n);
        return what == 0 ? people.savedBy(words, x, code) : people.costOf(words, x, code);
    }

    public int journal(int writers, int readers) {
        if (!people.arePersons(writers) || !people.arePersons(readers)) return OUTSIDE;
        if (people.journals() >= People.JOURNALS) return FULL;
        return people.addJournal(writers, readers);
    }

    public int need(int n) {
        if (n < 1 || n > People.MOST_NEED) return OUTSIDE;
        return people.changeNeed(n);
    }

    public int month() {
        return people.passMonth(words.roots());
    }

    public int heard(int p, int x) {
        if (!people.isPerson(p) || !words.isRoot(x)) return UNKNOWN;
        return people.timesHeard(p, x);
    }

    public int spread(int x) {
        return words.isRoot(x) ? people.knowersOf(x) : UNKNOWN;
    }

    // ---- 4 bodies, parting, doubles

    public int body(int persons, int acts, int share) {
        if (!people.arePersons(persons) || persons == 0) return OUTSIDE;
        if (acts < 0 || acts >= 1 << Bodies.ACTS || share < 1 || share > Bodies.WHOLE) return OUTSIDE;
        if (bodies.count() >= Bodies.BODIES) return FULL;
        return bodies.add(persons, acts, share);
    }

    public int vote(int b, int act, int yes) {
        if (!bodies.isBody(b)) return UNKNOWN;
        if (act < 0 || act >= Bodies.ACTS || !bodies.areMembers(b, yes)) return OUTSIDE;
        return bodies.decide(b, act, yes);
    }

    public int beyond(int b) {
        return bodies.isBody(b) ? bodies.timesBeyond(b) : UNKNOWN;
    }

    public int seats() {
        return bodies.inTwoOrMore();
    }

    public int letters(int p, int q, int v) {
        if (!people.isPerson(p) || !people.isPerson(q)) return UNKNOWN;
        if (v < 0 || v > Bodies.MOST_WRITTEN || p == q) return OUTSIDE;
        return bodies.changeWritten(p, q, v);
    }

    public int part(int p, int q, int what) {
        if (!people.isPerson(p) || !people.isPerson(q)) return UNKNOWN;
        if (what < 0 || what > 1 || p == q) return OUTSIDE;
        bodies.divide(people.count(), p, q);
        return what == 0 ? bodies.dividedSet() : bodies.dividedSum();
    }

    public int uses(int x, int v) {
        if (!words.isRoot(x)) return UNKNOWN;
        if (v < 0 || v > Doubles.MOST_USES) return OUTSIDE;
        return doubles.changeUses(x, v);
    }

    public int pair(int x, int y) {
        if (!words.isRoot(x) || !words.isRoot(y)) return UNKNOWN;
        if (x == y) return OUTSIDE;
        if (doubles.pairOf(x) != NONE || doubles.pairOf(y) != NONE) return STATE;
        if (doubles.count() >= Doubles.PAIRS) return FULL;
        return doubles.add(x, y);
    }

    public int keep(int what) {
        if (what < 0 || what > 1) return OUTSIDE;
        doubles.choose(words, people);
        return what == 0 ? doubles.keptBits() : doubles.keptSum();
    }

    // ---- 5 congress, posts

    public int session(int wanted) {
        if (!people.arePersons(wanted)) return OUTSIDE;
        if (congress.count() >= Congress.SESSIONS) return FULL;
        return congress.add(wanted);
    }

    public int hall(int turns, int rooms) {
        if (turns < 1 || turns > Congress.MOST_TURNS || rooms < 1 || rooms > Congress.MOST_ROOMS) return OUTSIDE;
        congress.changeHall(turns, rooms);
        return 1;
    }

    public int table(int s) {
        if (s < -1 || s >= congress.count()) return UNKNOWN;
        congress.arrange();
        return s < 0 ? congress.heardOrNone() : congress.turnOrNone(s);
    }

    public int road(int a, int b, boolean is) {
        if (!Posts.isPost(a) || !Posts.isPost(b)) return UNKNOWN;
        if (a == b) return OUTSIDE;
        return posts.change(a, b, is) ? 1 : 0;
    }

    public int forbid(int set) {
        if (set < 0 || set >= 1 << Posts.POSTS) return OUTSIDE;
        return posts.changeForbidding(set);
    }

    public int letter(int a, int b) {
        if (!Posts.isPost(a) || !Posts.isPost(b)) return UNKNOWN;
        return posts.fewestRoads(a, b);
    }

    public int round(int a) {
        return Posts.isPost(a) ? posts.countReached(a) : UNKNOWN;
    }

    // ---- 6 sheets, parts

    public int sheet(int k, int lane, int n) {
        latestFault = NO_FAULT;
        if (!Sheets.isSheet(k)) return UNKNOWN;
        if (!Sheets.isLane(lane) || n > Sheets.LONGEST) return OUTSIDE;
        if (n < 0) return failing(SIZE);
        sheets.lay(k, lane, n);
        return 1;
    }

    public int lose(int k) {
        if (!Sheets.isSheet(k)) return UNKNOWN;
        return sheets.strip(k) ? 1 : 0;
    }

    public int put(int k, int i, int v) {
        latestFault = NO_FAULT;
        if (!Sheets.isSheet(k)) return UNKNOWN;
        if (sheets.isNothing(k)) return failing(NULL);
        if (!sheets.isCell(k, i)) return failing(INDEX);
        sheets.write(k, i, v);
        return 1;
    }

    public long cell(int k, int i, int lane) {
        latestFault = NO_FAULT;
        if (!Sheets.isSheet(k) || !Sheets.isLane(lane)) return LOST;
        // One cell from i on is reached just where i is a cell.
        if (reaching(k, lane, i, 1, 1) != 0) return LOST;
        return sheets.at(k, i);
    }

    public int copy(int k, int i, int other, int j, int n) {
        latestFault = NO_FAULT;
        if (!Sheets.isSheet(k) || !Sheets.isSheet(other)) return UNKNOWN;
        if (sheets.isNothing(k) || sheets.isNothing(other)) return failing(NULL);
        if (sheets.laneOf(k) != sheets.laneOf(other)) return failing(CAST);
        if (n < 0 || !sheets.isRange(k, i, n) || !sheets.isRange(other, j, n)) return failing(INDEX);
        sheets.move(k, i, other, j, n);
        return n;
    }

    public int tell(int x) {
        if (!words.isRoot(x)) return UNKNOWN;
        switch (words.kindOf(x)) {
            case BLEND: return toldByBlend(x);
            case LOAN: return toldByLoan(x);
            default: return toldByRoot(x);
        }
    }

    public int say(int x) {
        if (!words.isRoot(x)) return UNKNOWN;
        if (words.kindOf(x) == BLEND) {
            leave(5);
            return 70;
        }
        leave(4);
        return x;
    }

    public int as(int x, int kind) {
        latestFault = NO_FAULT;
        if (!words.isRoot(x)) return UNKNOWN;
        if (kind < ROOT || kind > BLEND) return OUTSIDE;
        // A kind is one of all kinds that stand ahead of it, too.
        return words.kindOf(x) < kind ? failing(CAST) : 1;
    }

    public int trace() {
        return traced;
    }

    public int fault() {
        return latestFault;
    }

    public int many(int what) {
        switch (what) {
            case 0: return words.roots();
            case 1: return words.endings();
            case 2: return rules.count();
            case 3: return meanings.sentences();
            case 4: return people.count();
            case 5: return people.journals();
            case 6: return bodies.count();
            case 7: return doubles.count();
            case 8: return congress.count();
            case 9: return people.monthsGone();
            case 10: return posts.roads();
            default: return OUTSIDE;
        }
    }

    // ---- what several calls share

    private static boolean isClass(int cls) {
        return cls >= 0 && cls < CLASSES;
    }

    private static boolean isClub(int club) {
        return club >= 0 && club < CLUBS;
    }

    private static boolean isYear(int year) {
        return year >= 0 && year < YEARS;
    }

    private int failing(int fault) {
        latestFault = fault;
        return FAULT_BASE - fault;
    }

    /** 0, or what is answered for the FAULT that taking n rows of some width comes to first. */
    private int reaching(int sheet, int lane, int i, int n, int width) {
        int fault = sheets.reach(sheet, lane, i, n, width);
        return fault == NO_FAULT ? 0 : failing(fault);
    }

    /** 0, or why cells are no row of LETTERS that may be taken apart. */
    private int rowRefusal(int sheet, int lane, int i, int n) {
        latestFault = NO_FAULT;
        if (!Sheets.isSheet(sheet)) return UNKNOWN;
        if (!Sheets.isLane(lane)) return OUTSIDE;
        int failed = reaching(sheet, lane, i, n, 1);
        if (failed != 0) return failed;
        return n < 1 || n > Ways.LONGEST || !sheets.areLetters(sheet, i, n) ? OUTSIDE : 0;
    }

    private void leave(int number) {
        traced = 31 * traced + number;
    }

    private int toldByRoot(int x) {
        leave(1);
        return words.sizeOf(x);
    }

    private int toldByLoan(int x) {
        leave(2);
        return toldByRoot(x) + words.classAfter(x) + 10;
    }

    private int toldByBlend(int x) {
        leave(3);
        int asLoan = toldByLoan(x);
        return asLoan + toldByRoot(x);
    }

    /** SHEETS; all their cells lie in one row, so that a new SHEET makes nothing new. */
    private static final class Sheets {
        static final int SHEETS = 4, LONGEST = 60;
        private static final int BYTES = 0, SHORTS = 1, INTS = 2, NOTHING = -1;
        private static final int FIRST_LETTER = 1, LAST_LETTER = 26;

        private final int[] cells = new int[SHEETS * LONGEST];
        private final int[] lanes = new int[SHEETS];
        private final int[] lengths = new int[SHEETS];

        Sheets() {
            for (int k = 0; k < SHEETS; k++) lengths[k] = NOTHING;
        }

        static boolean isSheet(int k) {
            return k >= 0 && k < SHEETS;
        }

        static boolean isLane(int lane) {
            return lane >= BYTES && lane <= INTS;
        }

        boolean isNothing(int k) {
            return lengths[k] == NOTHING;
        }

        boolean isCell(int k, int i) {
            return i >= 0 && i < lengths[k];
        }

        /** Whether n cells (0 or more) lie from i on; sums are not made, for they could wrap. */
        boolean isRange(int k, int i, int n) {
            return i >= 0 && i <= lengths[k] && n <= lengths[k] - i;
        }

        int laneOf(int k) {
            return lanes[k];
        }

        int at(int k, int i) {
            return cells[k * LONGEST + i];
        }

        void lay(int k, int lane, int n) {
            lanes[k] = lane;
            lengths[k] = n;
            for (int i = 0; i < n; i++) cells[k * LONGEST + i] = 0;
        }

        boolean strip(int k) {
            boolean had = lengths[k] != NOTHING;
            lengths[k] = NOTHING;
            return had;
        }

        void write(int k, int i, int v) {
            cells[k * LONGEST + i] = cut(v, lanes[k]);
        }

        private static int cut(int v, int lane) {
            if (lane == BYTES) return (byte) v;
            if (lane == SHORTS) return (short) v;
            return v;
        }

        void move(int k, int i, int other, int j, int n) {
            System.arraycopy(cells, k * LONGEST + i, cells, other * LONGEST + j, n);
        }

        /** The FAULT that taking n rows of some width from i on, as cells of a LANE, comes to first. */
        int reach(int k, int lane, int i, int n, int width) {
            if (isNothing(k)) return NULL;
            if (lanes[k] != lane) return CAST;
            if (n < 0) return SIZE;
            // No SHEET has more cells than LONGEST, and a small n times width does not wrap.
            if (n > LONGEST || !isRange(k, i, n * width)) return INDEX;
            return NO_FAULT;
        }

        boolean areLetters(int k, int i, int n) {
            for (int at = 0; at < n; at++) {
                int v = at(k, i + at);
                if (v < FIRST_LETTER || v > LAST_LETTER) return false;
            }
            return true;
        }

        /** Up to four LETTERS as a code of Words. */
        int codeOf(int k, int i, int n) {
            int code = 0;
            for (int at = 0; at < n; at++) code |= at(k, i + at) << Words.shiftOf(at);
            return code;
        }
    }

    /**
     * ROOTS and ENDINGS, and the words that TONGUES have for ROOTS. Both are PARTS: ROOTS are the
     * PARTS 0 .. 15, ENDINGS come from 16 on, so that PARTS by number stand in the order of WAYS.
     * LETTERS are a code of four times five bits, the first LETTER highest, none told as 0: codes of one
     * length stand in the order of their LETTERS, and what begins alike has high bits alike.
     */
    private static final class Words {
        static final int ROOTS = 16, ENDINGS = 8, PARTS = ROOTS + ENDINGS, TONGUES = 4;
        static final int LONGEST = 4, LONGEST_ENDING = 2;
        static final int BITS = 5, ALL_BITS = (1 << LONGEST * BITS) - 1, LETTER_BITS = (1 << BITS) - 1;
        static final int START = -1;

        private final int[] kinds = new int[ROOTS];
        private final int[] codes = new int[PARTS];
        private final int[] sizes = new int[PARTS];
        private final int[] before = new int[PARTS];
        private final int[] after = new int[PARTS];
        private final int[] near = new int[ROOTS];
        private final int[] abroad = new int[TONGUES * ROOTS];
        private final int[] months = new int[TONGUES * ROOTS];
        private final int[] counted = new int[LONGEST + 1];
        private int roots;
        private int endings;

        Words() {
            roots = 0;
            endings = 0;
        }

        static boolean isTongue(int t) {
            return t >= 0 && t < TONGUES;
        }

        static int shiftOf(int place) {
            return (LONGEST - 1 - place) * BITS;
        }

        static int letterAt(int code, int place) {
            return code >> shiftOf(place) & LETTER_BITS;
        }

        static int maskOf(int size) {
            return ALL_BITS << (LONGEST - size) * BITS & ALL_BITS;
        }

        static int lengthOf(int code) {
            int size = 0;
            while (size < LONGEST && letterAt(code, size) != 0) size++;
            return size;
        }

        /** What is left of a code behind its first LETTERS. */
        static int behind(int code, int size) {
            return code << size * BITS & ALL_BITS;
        }

        int roots() {
            return roots;
        }

        int endings() {
            return endings;
        }

        boolean isRoot(int x) {
            return x >= 0 && x < roots;
        }

        boolean isThere(int part) {
            return part < ROOTS ? part < roots : part - ROOTS < endings;
        }

        int kindOf(int x) {
            return kinds[x];
        }

        int codeOf(int part) {
            return codes[part];
        }

        int sizeOf(int part) {
            return sizes[part];
        }

        /** The CLASS that a word has behind a PART; a ROOT's own. */
        int classAfter(int part) {
            return after[part];
        }

        int nearTo(int x) {
            return near[x];
        }

        boolean hasRootOf(int code) {
            for (int x = 0; x < roots; x++) if (codes[x] == code) return true;
            return false;
        }

        int addRoot(int kind, int cls, int code, int size) {
            int x = roots;
            kinds[x] = kind;
            codes[x] = code;
            sizes[x] = size;
            after[x] = cls;
            for (int other = 0; other < x; other++) {
                if (changes(codes[other], code) == 1) {
                    near[x] |= 1 << other;
                    near[other] |= 1 << x;
                }
            }
            for (int t = 0; t < TONGUES; t++) changeAbroad(t, x, 0);
            roots = x + 1;
            return x;
        }

        int addEnding(int from, int to, int code, int size) {
            int part = ROOTS + endings;
            codes[part] = code;
            sizes[part] = size;
            before[part] = from;
            after[part] = to;
            endings = endings + 1;
            return part - ROOTS;
        }

        /** Whether a PART may come behind a CLASS (START: as the first one). */
        boolean follows(int cls, int part, int joined) {
            if (!isThere(part)) return false;
            if (part >= ROOTS) return before[part] == cls;
            return cls == START || Rules.areJoined(joined, cls, after[part]);
        }

        /** Whether the LETTERS of a code begin with a PART. */
        boolean begins(int part, int code) {
            return (code & maskOf(sizes[part])) == codes[part];
        }

        void changeAbroad(int t, int x, int code) {
            abroad[t * ROOTS + x] = code;
            months[t * ROOTS + x] = monthsTo(t, x, codes[x]);
        }

        int monthsFrom(int t, int x) {
            return months[t * ROOTS + x];
        }

        /** MONTHS to learn a ROOT, if its LETTERS were those of a code. */
        int monthsTo(int t, int x, int code) {
            return 1 + changes(abroad[t * ROOTS + x], code);
        }

        /** The fewest changes from one code to another, row by row of the well-known square. */
        private int changes(int from, int to) {
            int high = lengthOf(from), wide = lengthOf(to);
            for (int j = 0; j <= wide; j++) counted[j] = j;
            for (int i = 1; i <= high; i++) {
                int corner = counted[0];
                counted[0] = i;
                for (int j = 1; j <= wide; j++) {
                    int above = counted[j];
                    int changed = letterAt(from, i - 1) == letterAt(to, j - 1) ? corner : corner + 1;
                    counted[j] = Math.min(changed, 1 + Math.min(above, counted[j - 1]));
                    corner = above;
                }
            }
            return counted[wide];
        }
    }

    /** RULES, THE STAND, and what follows from both: which CLASSES may be JOINED, and by which RULE. */
    private static final class Rules {
        static final int ALL_CLUBS = -1, NO_PLACE = -1;
        private static final int RULES = 10, CLAUSES = 4, NOT = 16;
        private static final int OPEN = 0, NEGATED = 1, SIGN = 2, SECOND = 3, SHUT = 4, WRONG = -1;

        // One RULE more than there may be: a TEXT is read into the place behind the last RULE.
        private final int[] clauses = new int[(RULES + 1) * CLAUSES];
        private final int[] sizes = new int[RULES + 1];
        private final int[] clubs = new int[RULES];
        private final int[] from = new int[RULES];
        private final int[] to = new int[RULES];
        private final int[] tellers = new int[CLASSES * CLASSES];
        private int count;
        private int club;
        private int year;
        private int joined;

        Rules() {
            for (int at = 0; at < CLASSES * CLASSES; at++) tellers[at] = NONE;
        }

        /** Whether a set of JOINED CLASSES has y behind x. */
        static boolean areJoined(int joined, int x, int y) {
            return (joined >> x * CLASSES + y & 1) != 0;
        }

        int count() {
            return count;
        }

        boolean isFull() {
            return count >= RULES;
        }

        int joined() {
            return joined;
        }

        int tellerOf(int x, int y) {
            return tellers[x * CLASSES + y];
        }

        boolean moveTo(int otherClub, int otherYear) {
            if (club == otherClub && year == otherYear) return false;
            club = otherClub;
            year = otherYear;
            settle();
            return true;
        }

        /** Reads a TEXT behind the last RULE: its FIRST FAULT, NO_PLACE. */
        int firstFault(Sheets sheets, int k, int i, int n) {
            int state = OPEN, made = 0, clause = 0;
            for (int at = 0; at < n; at++) {
                int code = sheets.at(k, i + at);
                int next = made == CLAUSES ? WRONG : stateAfter(state, code);
                if (next == WRONG) return at;
                if (state == OPEN) clause = 0;
                if (next == NEGATED) clause = NOT;
                if (next == SIGN) clause += classOf(code) * CLASSES;
                if (next == SHUT) {
                    clauses[count * CLAUSES + made] = clause + classOf(code);
                    made++;
                }
                state = next;
            }
            sizes[count] = made;
            return state == SHUT ? NO_PLACE : n;
        }

        private static int stateAfter(int state, int code) {
            switch (state) {
                case OPEN:
                    if (code == '!') return NEGATED;
                    return classOf(code) == NONE ? WRONG : SIGN;
                case NEGATED:
                    return classOf(code) == NONE ? WRONG : SIGN;
                case SIGN:
                    return code == '+' ? SECOND : WRONG;
                case SECOND:
                    return classOf(code) == NONE ? WRONG : SHUT;
                default:
                    return code == ',' ? OPEN : WRONG;
            }
        }

        private static int classOf(int code) {
            switch (code) {
                case 'n': return 0;
                case 'v': return 1;
                case 'a': return 2;
                case 'o': return 3;
                default: return NONE;
            }
        }

        /** The TEXT that was read last becomes a RULE. */
        int addRead(int ofClub, int fromYear, int toYear) {
            int number = count;
            clubs[number] = ofClub;
            from[number] = fromYear;
            to[number] = toYear;
            count = number + 1;
            settle();
            return number;
        }

        private boolean isInForce(int number) {
            boolean ours = clubs[number] == ALL_CLUBS || clubs[number] == club;
            return ours && from[number] <= year && year <= to[number];
        }

        /** Lets RULES tell in their order, and clauses in theirs: what is told last stands. */
        private void settle() {
            joined = 0;
            for (int at = 0; at < CLASSES * CLASSES; at++) tellers[at] = NONE;
            for (int number = 0; number < count; number++) {
                if (!isInForce(number)) continue;
                for (int k = 0; k < sizes[number]; k++) {
                    int clause = clauses[number * CLAUSES + k];
                    int both = clause % NOT;
                    tellers[both] = number;
                    joined = clause < NOT ? joined | 1 << both : joined & ~(1 << both);
                }
            }
        }
    }

    /** WAYS of a row of LETTERS, counted from its end back. */
    private static final class Ways {
        static final int LONGEST = 20;
        private static final int MOST = 1000000, ENDING_BASE = 100;

        private final Words words;
        // The four LETTERS from a place on, as a code.
        private final int[] ahead = new int[LONGEST];
        // How many WAYS go on from a place to the end, by the CLASS had so far.
        private final int[] rest = new int[(LONGEST + 1) * CLASSES];
        private int length;
        private int joined;

        Ways(Words words) {
            this.words = words;
        }

        void read(Sheets sheets, int k, int i, int n, int joinedNow) {
            length = n;
            joined = joinedNow;
            int code = 0;
            for (int at = n - 1; at >= 0; at--) {
                code = code >> Words.BITS | sheets.at(k, i + at) << Words.shiftOf(0);
                ahead[at] = code;
            }
            for (int cls = 0; cls < CLASSES; cls++) rest[n * CLASSES + cls] = 1;
            for (int at = n - 1; at > 0; at--) countFrom(at);
        }

        private void countFrom(int at) {
            for (int cls = 0; cls < CLASSES; cls++) rest[at * CLASSES + cls] = 0;
            for (int part = 0; part < Words.PARTS; part++) {
                int more = restBehind(at, part);
                if (more == 0) continue;
                for (int cls = 0; cls < CLASSES; cls++) {
                    if (!words.follows(cls, part, joined)) continue;
                    int all = rest[at * CLASSES + cls] + more;
                    rest[at * CLASSES + cls] = Math.min(all, MOST);
                }
            }
        }

        /** How many WAYS go on behind a PART at a place; 0, if it does not stand there. */
        private int restBehind(int at, int part) {
            if (!words.isThere(part) || !words.begins(part, ahead[at])) return 0;
            // The row's end cuts off what is ahead, so a PART that stands here does not go beyond it.
            return rest[(at + words.sizeOf(part)) * CLASSES + words.classAfter(part)];
        }

        int countAll() {
            int all = 0;
            for (int x = 0; x < words.roots(); x++) all = Math.min(all + restBehind(0, x), MOST);
            return all;
        }

        /** The k-th PART of the first WAY, NONE. */
        int firstWayAt(int k) {
            int at = 0, cls = Words.START;
            for (int turn = 0; turn <= k && at < length; turn++) {
                int part = leastPart(at, cls);
                if (part == NONE) return NONE;
                if (turn == k) return part < Words.ROOTS ? part : ENDING_BASE + part - Words.ROOTS;
                at += words.sizeOf(part);
                cls = words.classAfter(part);
            }
            return NONE;
        }

        private int leastPart(int at, int cls) {
            for (int part = 0; part < Words.PARTS; part++) {
                if (words.follows(cls, part, joined) && restBehind(at, part) > 0) return part;
            }
            return NONE;
        }
    }

    /**
     * TWO. Its two WAYS begin with the same PARTS (none, one or two: the HEAD), then take different ones,
     * and come together again at its end, for where they came together earlier a lesser row would end.
     * What comes behind a HEAD depends on the HEAD's CLASS alone, so of each CLASS the least HEAD is enough.
     * In between one WAY is behind the other by a gap, the last LETTERS of the other's latest PART. What may
     * come then depends on that PART, the gap's size, the CLASS of the one behind, which one that is, and
     * how many PARTS are left to the first one: so of each such state the least row is enough.
     */
    private static final class Two {
        static final int LONGEST = 12;
        private static final int MOST_PARTS = 3, NO_PART = -1;
        // Both WAYS have a PART behind the HEAD as a state is kept, so a gap is less than a whole PART.
        private static final int WIDEST = Words.LONGEST - 1;
        // States of one size of gap, and all of them.
        private static final int BLOCK = CLASSES * 2 * MOST_PARTS * Words.PARTS, STATES = WIDEST * BLOCK;
        // Above every row of LONGEST LETTERS.
        private static final long NO_ROW = 1L << LONGEST * Words.BITS;

        private final Words words;
        // A row is a number, five bits a LETTER: no LETTER is 0, so numbers stand in the order asked for.
        // HEADS by CLASS: of one PART, behind them of two.
        private final long[] heads = new long[2 * CLASSES];
        private final long[] reached = new long[STATES];
        private int joined;
        private long farthest;
        private long least;
        private int rootsSeen;
        private int endingsSeen;

        Two(Words words) {
            this.words = words;
            least = NO_ROW;
        }

        int lettersOrNone() {
            return least == NO_ROW ? NONE : lettersOf(least);
        }

        int letterOrNone(int k) {
            if (least == NO_ROW || k >= lettersOf(least)) return NONE;
            return (int) (least >> (lettersOf(least) - 1 - k) * Words.BITS) & Words.LETTER_BITS;
        }

        private static int lettersOf(long row) {
            int size = 0;
            while (size < LONGEST && row >> size * Words.BITS != 0) size++;
            return size;
        }

        /** Finds TWO, if anything that it depends on has become other since it was found last. */
        void lookUnder(int joinedNow) {
            boolean same = joined == joinedNow && rootsSeen == words.roots() && endingsSeen == words.endings();
            if (same) return;
            joined = joinedNow;
            rootsSeen = words.roots();
            endingsSeen = words.endings();
            least = NO_ROW;
            farthest = 0;
            for (int at = 0; at < STATES; at++) reached[at] = NO_ROW;
            makeHeads();
            split(0, Words.START, MOST_PARTS);
            for (int at = 0; at < 2 * CLASSES; at++) {
                int left = at < CLASSES ? MOST_PARTS - 1 : MOST_PARTS - 2;
                if (heads[at] != NO_ROW) split(heads[at], at % CLASSES, left);
            }
            // What goes on makes a row longer or a gap less: in this order each state is at its least in its turn.
            for (int size = 1; size <= LONGEST && size <= lettersOf(Math.min(least, farthest)); size++) {
                for (int gap = WIDEST; gap > 0; gap--) sweep(size, gap);
            }
        }

        private void makeHeads() {
            for (int at = 0; at < 2 * CLASSES; at++) heads[at] = NO_ROW;
            for (int x = 0; x < words.roots(); x++) offerHead(0, x, 0);
            for (int cls = 0; cls < CLASSES; cls++) {
                if (heads[cls] == NO_ROW) continue;
                for (int part = 0; part < Words.PARTS; part++) {
                    if (words.follows(cls, part, joined)) offerHead(heads[cls], part, CLASSES);
                }
            }
        }

        private void offerHead(long start, int part, int base) {
            int at = base + words.classAfter(part);
            heads[at] = Math.min(heads[at], rowWith(start, words.codeOf(part), words.sizeOf(part)));
        }

        private static long rowWith(long start, int code, int size) {
            return start << size * Words.BITS | code >> (Words.LONGEST - size) * Words.BITS;
        }

        /** Behind a HEAD the first WAY takes a PART (of those left to it), the second one another. */
        private void split(long head, int cls, int left) {
            for (int part = 0; part < Words.PARTS; part++) {
                if (!words.follows(cls, part, joined)) continue;
                int size = words.sizeOf(part);
                goOn(rowWith(head, words.codeOf(part), size), part, size, cls, false, left - 1, part);
            }
        }

        private void sweep(int size, int gap) {
            for (int k = 0; k < BLOCK; k++) {
                long row = reached[(gap - 1) * BLOCK + k];
                if (row == NO_ROW || lettersOf(row) != size) continue;
                int rest = k / Words.PARTS, turn = rest / MOST_PARTS;
                goOn(row, k % Words.PARTS, gap, turn % CLASSES, turn >= CLASSES, rest % MOST_PARTS, NO_PART);
            }
        }

        /** The WAY that is behind takes a PART (any but one): they meet, or it is behind by less, or the other one is. */
        private void goOn(long row, int part, int gap, int behind, boolean first, int left, int but) {
            int open = Words.behind(words.codeOf(part), words.sizeOf(part) - gap);
            int leftThen = first ? left - 1 : left;
            for (int next = 0; next < Words.PARTS; next++) {
                if (next == but || !words.follows(behind, next, joined)) continue;
                int code = words.codeOf(next), size = words.sizeOf(next), over = size - gap;
                if (((code ^ open) & Words.maskOf(Math.min(size, gap))) != 0) continue;
                if (over == 0) {
                    least = Math.min(least, row);
                } else if (over < 0) {
                    reach(row, part, -over, words.classAfter(next), first, leftThen);
                } else {
                    long longer = rowWith(row, Words.behind(code, gap), over);
                    reach(longer, next, over, words.classAfter(part), !first, leftThen);
                }
            }
        }

        private void reach(long row, int part, int gap, int behind, boolean first, int left) {
            // The first WAY can't go on with no PART left to it; so no row has more LETTERS than LONGEST.
            if (first && left < 1) return;
            int turn = first ? CLASSES + behind : behind;
            int at = (gap - 1) * BLOCK + (turn * MOST_PARTS + left) * Words.PARTS + part;
            reached[at] = Math.min(reached[at], row);
            farthest = Math.max(farthest, row);
        }
    }

    /** MEANINGS, SENTENCES, WORLDS. A set of THINGS is told by bits, one of each of the 16. */
    private static final class Meanings {
        static final int SENTENCES = 10, CLAUSES = 4, WIDTH = 3, THINGS = 3;
        private static final int KINDS = 16, WORLDS = 969, ALL = 0, SOME = 1, SORTS = 3;
        private static final int ALL_KINDS = (1 << KINDS) - 1, THING_BITS = 4, COUNT_SHIFT = KINDS + THINGS * THING_BITS;

        private final int[] told = new int[CLUBS * Words.ROOTS];
        private final int[] taken = new int[CLUBS * Words.ROOTS];
        private final int[] clauses = new int[SENTENCES * CLAUSES * WIDTH];
        private final int[] sizes = new int[SENTENCES];
        // A WORLD: from the low bits on its set of THINGS, its THINGS one by one, how many they are.
        private final int[] worlds = new int[WORLDS];
        // What one SENTENCE asks for one CLUB, and for another one.
        private final int[] banned = new int[2];
        private final int[] wanted = new int[2 * CLAUSES];
        private final int[] wants = new int[2];
        private int sentences;

        Meanings() {
            for (int at = 0; at < CLUBS * Words.ROOTS; at++) taken[at] = ALL_KINDS;
            int at = 1;
            for (int a = 0; a < KINDS; a++) worlds[at++] = worldOf(1, a, a, a);
            for (int a = 0; a < KINDS; a++) {
                for (int b = a; b < KINDS; b++) worlds[at++] = worldOf(2, a, b, b);
            }
            for (int a = 0; a < KINDS; a++) {
                for (int b = a; b < KINDS; b++) {
                    for (int c = b; c < KINDS; c++) worlds[at++] = worldOf(3, a, b, c);
                }
            }
        }

        private static int worldOf(int size, int a, int b, int c) {
            int things = a | b << THING_BITS | c << 2 * THING_BITS;
            return size << COUNT_SHIFT | things << KINDS | 1 << a | 1 << b | 1 << c;
        }

        static boolean isFeatures(int set) {
            return set >= 0 && set < KINDS;
        }

        static boolean isWorld(int number) {
            return number >= 0 && number < WORLDS;
        }

        static boolean areSorts(Sheets sheets, int k, int i, int n) {
            for (int row = 0; row < n; row++) {
                int sort = sheets.at(k, i + row * WIDTH);
                if (sort < ALL || sort >= SORTS) return false;
            }
            return true;
        }

        static boolean areRoots(Words words, Sheets sheets, int k, int i, int n) {
            for (int row = 0; row < n; row++) {
                if (!words.isRoot(sheets.at(k, i + row * WIDTH + 1))) return false;
                if (!words.isRoot(sheets.at(k, i + row * WIDTH + 2))) return false;
            }
            return true;
        }

        int sentences() {
            return sentences;
        }

        boolean isSentence(int number) {
            return number >= 0 && number < sentences;
        }

        int change(int club, int x, int has, int not) {
            int at = club * Words.ROOTS + x;
            int was = told[at];
            told[at] = has * KINDS + not;
            taken[at] = 0;
            for (int thing = 0; thing < KINDS; thing++) {
                if ((thing & has) == has && (thing & not) == 0) taken[at] |= 1 << thing;
            }
            return was;
        }

        int addSentence(Sheets sheets, int k, int i, int n) {
            int number = sentences;
            for (int at = 0; at < n * WIDTH; at++) {
                clauses[number * CLAUSES * WIDTH + at] = sheets.at(k, i + at);
            }
            sizes[number] = n;
            sentences = number + 1;
            return number;
        }

        int thingOrNone(int number, int k) {
            int world = worlds[number];
            if (k >= world >> COUNT_SHIFT) return NONE;
            return world >> KINDS + k * THING_BITS & KINDS - 1;
        }

        boolean holds(int sentence, int club, int number) {
            ask(0, sentence, club);
            return isAnswered(0, number);
        }

        int leastDiffering(int sentence, int club, int other) {
            ask(0, sentence, club);
            ask(1, sentence, other);
            for (int number = 0; number < WORLDS; number++) {
                if (isAnswered(0, number) && !isAnswered(1, number)) return number;
            }
            return NONE;
        }

        int countTrue(int sentence, int club) {
            ask(0, sentence, club);
            int count = 0;
            for (int number = 0; number < WORLDS; number++) if (isAnswered(0, number)) count++;
            return count;
        }

        /** What a SENTENCE asks of a WORLD for a CLUB: no THING that is banned, one of each set that is wanted. */
        private void ask(int side, int sentence, int club) {
            banned[side] = 0;
            wants[side] = 0;
            for (int row = 0; row < sizes[sentence]; row++) {
                int at = (sentence * CLAUSES + row) * WIDTH;
                int x = taken[club * Words.ROOTS + clauses[at + 1]];
                int y = taken[club * Words.ROOTS + clauses[at + 2]];
                if (clauses[at] == SOME) {
                    wanted[side * CLAUSES + wants[side]] = x & y;
                    wants[side]++;
                } else {
                    banned[side] |= clauses[at] == ALL ? x & ~y : x & y;
                }
            }
        }

        private boolean isAnswered(int side, int number) {
            // The bits above a WORLD's set of THINGS are in no set that is asked for.
            int world = worlds[number];
            if ((world & banned[side]) != 0) return false;
            for (int k = 0; k < wants[side]; k++) {
                if ((world & wanted[side * CLAUSES + k]) == 0) return false;
            }
            return true;
        }
    }

    /** PERSONS, what they know and hear, and JOURNALS. */
    private static final class People {
        static final int PERSONS = 12, JOURNALS = 6, MOST_NEED = 9;
        private static final int FIRST_NEED = 2, MEMORY = 6, FORGOTTEN = 1000;

        private final int[] firsts = new int[PERSONS];
        private final int[] known = new int[PERSONS];
        private final int[] times = new int[PERSONS * Words.ROOTS];
        // The MONTH in which a PERSON heard a ROOT last, or came to know it.
        private final int[] latest = new int[PERSONS * Words.ROOTS];
        private final int[] writers = new int[JOURNALS];
        private final int[] readers = new int[JOURNALS];
        private int count;
        private int journals;
        private int needed;
        private int months;

        People() {
            needed = FIRST_NEED;
        }

        int count() {
            return count;
        }

        int journals() {
            return journals;
        }

        int monthsGone() {
            return months;
        }

        boolean isPerson(int p) {
            return p >= 0 && p < count;
        }

        boolean arePersons(int set) {
            return set >>> count == 0;
        }

        int add(int first) {
            int p = count;
            firsts[p] = first;
            count = p + 1;
            return p;
        }

        int firstOf(int p) {
            return firsts[p];
        }

        int rootsOf(int p) {
            return known[p];
        }

        boolean isKnown(int p, int x) {
            return (known[p] >> x & 1) != 0;
        }

        int timesHeard(int p, int x) {
            return times[p * Words.ROOTS + x];
        }

        int knowersOf(int x) {
            int set = 0;
            for (int p = 0; p < count; p++) if (isKnown(p, x)) set |= 1 << p;
            return set;
        }

        /** A PERSON knows a ROOT from now on, or not; false, if it was so. */
        boolean change(int p, int x, boolean is) {
            if (isKnown(p, x) == is) return false;
            known[p] ^= 1 << x;
            times[p * Words.ROOTS + x] = 0;
            latest[p * Words.ROOTS + x] = months;
            return true;
        }

        /** MONTHS of a ROOT, over PERSONS that do not know it. */
        int monthsToCome(Words words, int x) {
            int sum = 0;
            for (int p = 0; p < count; p++) if (!isKnown(p, x)) sum += words.monthsFrom(firsts[p], x);
            return sum;
        }

        int savedBy(Words words, int x, int code) {
            int sum = 0;
            for (int p = 0; p < count; p++) {
                if (!isKnown(p, x)) sum += words.monthsFrom(firsts[p], x) - words.monthsTo(firsts[p], x, code);
            }
            return sum;
        }

        int costOf(Words words, int x, int code) {
            int sum = 0;
            for (int p = 0; p < count; p++) if (isKnown(p, x)) sum += words.monthsTo(firsts[p], x, code);
            return sum;
        }

        int addJournal(int writing, int reading) {
            int number = journals;
            writers[number] = writing;
            readers[number] = reading;
            journals = number + 1;
            return number;
        }

        int changeNeed(int n) {
            int was = needed;
            needed = n;
            return was;
        }

        /** All hear ahead of any change, since they hear by what was known as the MONTH began. */
        int passMonth(int roots) {
            months++;
            int writing = 0;
            for (int number = 0; number < journals; number++) {
                writing |= writers[number];
                readOut(readers[number], toldBy(writers[number]), roots);
            }
            int changed = 0;
            for (int p = 0; p < count; p++) {
                boolean writes = (writing >> p & 1) != 0;
                for (int x = 0; x < roots; x++) changed += settle(p, x, writes);
            }
            return changed;
        }

        private int toldBy(int writing) {
            int set = 0;
            for (int p = 0; p < count; p++) if ((writing >> p & 1) != 0) set |= known[p];
            return set;
        }

        private void readOut(int reading, int told, int roots) {
            for (int p = 0; p < count; p++) {
                if ((reading >> p & 1) == 0) continue;
                for (int x = 0; x < roots; x++) if ((told >> x & 1) != 0) hear(p, x);
            }
        }

        private void hear(int p, int x) {
            latest[p * Words.ROOTS + x] = months;
            if (!isKnown(p, x)) times[p * Words.ROOTS + x]++;
        }

        /** What a MONTH's end makes of a PERSON and a ROOT: it comes to know it, knows it no more, or neither. */
        private int settle(int p, int x, boolean writes) {
            int at = p * Words.ROOTS + x;
            if (!isKnown(p, x)) {
                if (times[at] < needed) return 0;
                change(p, x, true);
                return 1;
            }
            if (writes || months - latest[at] < MEMORY) return 0;
            change(p, x, false);
            return FORGOTTEN;
        }
    }

    /** BODIES with their VOTES, LETTERS WRITTEN, and how two leaders part the PERSONS. */
    private static final class Bodies {
        static final int BODIES = 4, ACTS = 3, WHOLE = 10, MOST_WRITTEN = 99;
        // Above what all PERSONS together can write.
        private static final int NO_SUM = People.PERSONS * People.PERSONS * (MOST_WRITTEN + 1);

        private final int[] members = new int[BODIES];
        private final int[] acts = new int[BODIES];
        private final int[] shares = new int[BODIES];
        private final int[] overreached = new int[BODIES];
        private final int[] written = new int[People.PERSONS * People.PERSONS];
        private int count;
        private int persons;
        private int leader;
        private int rival;
        private int leastSet;
        private int leastSum;

        Bodies() {
            count = 0;
        }

        int count() {
            return count;
        }

        boolean isBody(int b) {
            return b >= 0 && b < count;
        }

        boolean areMembers(int b, int set) {
            return (set & ~members[b]) == 0;
        }

        int timesBeyond(int b) {
            return overreached[b];
        }

        int add(int set, int mayDo, int share) {
            int b = count;
            members[b] = set;
            acts[b] = mayDo;
            shares[b] = share;
            count = b + 1;
            return b;
        }

        int decide(int b, int act, int yes) {
            int passes = WHOLE * Integer.bitCount(yes) >= shares[b] * Integer.bitCount(members[b]) ? 1 : 0;
            if ((acts[b] >> act & 1) != 0) return passes;
            overreached[b]++;
            return 2 + passes;
        }

        int inTwoOrMore() {
            int once = 0, twice = 0;
            for (int b = 0; b < count; b++) {
                twice |= once & members[b];
                once |= members[b];
            }
            return twice;
        }

        int changeWritten(int p, int q, int v) {
            int was = written[p * People.PERSONS + q];
            written[p * People.PERSONS + q] = v;
            written[q * People.PERSONS + p] = v;
            return was;
        }

        int dividedSet() {
            return leastSet;
        }

        int dividedSum() {
            return leastSum;
        }

        void divide(int all, int first, int second) {
            persons = all;
            leader = first;
            rival = second;
            leastSet = 0;
            leastSum = NO_SUM;
            place(all - 1, 0, 0);
        }

        /**
         * Places PERSONS from the last to the first, each with the rival ahead of with the leader: so sets
         * come in the order of their numbers, and the first one of a least sum is the least.
         */
        private void place(int p, int set, int sum) {
            if (sum >= leastSum) return;
            if (p < 0) {
                leastSet = set;
                leastSum = sum;
                return;
            }
            int toSet = 0, toOthers = 0;
            for (int q = p + 1; q < persons; q++) {
                int between = written[p * People.PERSONS + q];
                if ((set >> q & 1) != 0) toSet += between;
                else toOthers += between;
            }
            if (p != leader) place(p - 1, set, sum + toSet);
            if (p != rival) place(p - 1, set | 1 << p, sum + toOthers);
        }
    }

    /** USES, PAIRS, and which of them to keep. */
    private static final class Doubles {
        static final int PAIRS = 8, MOST_USES = 999;

        private final int[] used = new int[Words.ROOTS];
        private final int[] pairs = new int[Words.ROOTS];
        // Of each PAIR both its ROOTS, and what it costs to keep the one or the other.
        private final int[] sides = new int[2 * PAIRS];
        private final int[] costs = new int[2 * PAIRS];
        private int count;
        private int leastBits;
        private int leastSum;

        Doubles() {
            for (int x = 0; x < Words.ROOTS; x++) pairs[x] = NONE;
        }

        int count() {
            return count;
        }

        int usesOf(int x) {
            return used[x];
        }

        int pairOf(int x) {
            return pairs[x];
        }

        int changeUses(int x, int v) {
            int was = used[x];
            used[x] = v;
            return was;
        }

        int add(int x, int y) {
            int number = count;
            sides[2 * number] = x;
            sides[2 * number + 1] = y;
            pairs[x] = number;
            pairs[y] = number;
            count = number + 1;
            return number;
        }

        int keptBits() {
            return leastBits;
        }

        int keptSum() {
            return leastSum;
        }

        void choose(Words words, People people) {
            for (int at = 0; at < 2 * count; at++) {
                costs[at] = used[sides[at ^ 1]] + people.monthsToCome(words, sides[at]);
            }
            leastBits = NONE;
            leastSum = NONE;
            for (int bits = 0; bits < 1 << count; bits++) {
                if (!standApart(words, bits)) continue;
                int sum = sumOf(bits);
                if (leastBits == NONE || sum < leastSum) {
                    leastBits = bits;
                    leastSum = sum;
                }
            }
        }

        private int sideOf(int number, int bits) {
            return 2 * number + (bits >> number & 1);
        }

        private boolean standApart(Words words, int bits) {
            int kept = 0;
            for (int number = 0; number < count; number++) {
                int x = sides[sideOf(number, bits)];
                if ((words.nearTo(x) & kept) != 0) return false;
                kept |= 1 << x;
            }
            return true;
        }

        private int sumOf(int bits) {
            int sum = 0;
            for (int number = 0; number < count; number++) sum += costs[sideOf(number, bits)];
            return sum;
        }
    }

    /** SESSIONS, and the TABLE of them in TURNS and ROOMS. */
    private static final class Congress {
        static final int SESSIONS = 6, MOST_TURNS = 3, MOST_ROOMS = 4;
        private static final int FIRST_TURNS = 2, FIRST_ROOMS = 2;

        private final int[] wanted = new int[SESSIONS];
        private final int[] tried = new int[SESSIONS];
        private final int[] kept = new int[SESSIONS];
        private final int[] hearers = new int[MOST_TURNS];
        private final int[] taken = new int[MOST_TURNS];
        private int count;
        private int turns;
        private int rooms;
        private int most;

        Congress() {
            turns = FIRST_TURNS;
            rooms = FIRST_ROOMS;
        }

        int count() {
            return count;
        }

        int add(int set) {
            int s = count;
            wanted[s] = set;
            count = s + 1;
            return s;
        }

        void changeHall(int turnsThen, int roomsThen) {
            turns = turnsThen;
            rooms = roomsThen;
        }

        int heardOrNone() {
            return most;
        }

        int turnOrNone(int s) {
            return most == NONE ? NONE : kept[s];
        }

        void arrange() {
            most = NONE;
            for (int turn = 0; turn < MOST_TURNS; turn++) {
                hearers[turn] = 0;
                taken[turn] = 0;
            }
            place(0, 0);
        }

        /** Tries TABLES in the order of their rows, so that the first one of the most HEARD stays. */
        private void place(int s, int heardSoFar) {
            if (s >= count) {
                if (heardSoFar > most) keepTried(heardSoFar);
                return;
            }
            for (int turn = 0; turn < turns; turn++) {
                if (taken[turn] >= rooms) continue;
                int hearersThen = hearers[turn];
                tried[s] = turn;
                taken[turn]++;
                hearers[turn] |= wanted[s];
                place(s + 1, heardSoFar + Integer.bitCount(wanted[s] & ~hearersThen));
                hearers[turn] = hearersThen;
                taken[turn]--;
            }
        }

        private void keepTried(int heardThen) {
            most = heardThen;
            for (int s = 0; s < count; s++) kept[s] = tried[s];
        }
    }

    /** POSTS, ROADS between them, and which FORBID. */
    private static final class Posts {
        static final int POSTS = 10;

        private final int[] next = new int[POSTS];
        private int forbidding;
        private int roads;

        Posts() {
            forbidding = 0;
            roads = 0;
        }

        static boolean isPost(int a) {
            return a >= 0 && a < POSTS;
        }

        int roads() {
            return roads;
        }

        boolean change(int a, int b, boolean is) {
            boolean was = (next[a] >> b & 1) != 0;
            if (was == is) return false;
            next[a] ^= 1 << b;
            next[b] ^= 1 << a;
            roads += is ? 1 : -1;
            return true;
        }

        int changeForbidding(int set) {
            int was = forbidding;
            forbidding = set;
            return was;
        }

        int fewestRoads(int a, int b) {
            int reached = 1 << a, edge = reached;
            for (int steps = 0; steps < POSTS; steps++) {
                if ((reached >> b & 1) != 0) return steps;
                edge = beyondEdge(edge, reached);
                reached |= edge;
                // Only from the first POST on letters go out although it FORBIDS.
                edge &= ~forbidding;
            }
            return NONE;
        }

        int countReached(int a) {
            int reached = 1 << a, edge = reached;
            for (int steps = 1; steps < POSTS; steps++) {
                edge = beyondEdge(edge, reached);
                reached |= edge;
                edge &= ~forbidding;
            }
            return Integer.bitCount(reached);
        }

        /** POSTS one ROAD beyond some, less those that are reached. */
        private int beyondEdge(int edge, int reached) {
            int set = 0;
            for (int post = 0; post < POSTS; post++) if ((edge >> post & 1) != 0) set |= next[post];
            return set & ~reached;
        }
    }
}
