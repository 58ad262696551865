import java.util.ArrayList;
import java.util.Arrays;
import java.util.Comparator;
import java.util.HashMap;
import java.util.HashSet;
import java.util.List;
import java.util.Map;
import java.util.Set;
import java.util.TreeSet;
import java.util.regex.Matcher;
import java.util.regex.Pattern;

/**
 * The document told a second time, as plainly and as slowly as it can be: rows are the machine's own
 * arrays, and what is least is found by trying all. AgainstPlainTest holds the class against it.
 */
final class PlainTongue {
    private static final int UNKNOWN = -1, OUTSIDE = -2, STATE = -3, FULL = -4, NONE = -9;
    private static final long LOST = Long.MIN_VALUE;
    private static final Pattern TEXT = Pattern.compile("!?[nvao]\\+[nvao](,!?[nvao]\\+[nvao]){0,3}");

    private record Root(int kind, int cls, List<Integer> letters) { }
    private record Ending(int from, int to, List<Integer> letters) { }
    private record Rule(int club, int from, int to, String text) { }
    private record Clause(int sort, int x, int y) { }
    private record Journal(int writers, int readers) { }
    private record Body(int persons, int acts, int share) { }
    private record Taken(int answer, List<Integer> cells) { }

    private static final Comparator<List<Integer>> BY_LENGTH_THEN_LETTERS = (a, b) -> {
        if (a.size() != b.size()) return Integer.compare(a.size(), b.size());
        for (int i = 0; i < a.size(); i++) {
            if (!a.get(i).equals(b.get(i))) return Integer.compare(a.get(i), b.get(i));
        }
        return 0;
    };

    private final Object[] sheets = new Object[4];
    private final List<Root> roots = new ArrayList<>();
    private final List<Ending> endings = new ArrayList<>();
    private final List<Rule> rules = new ArrayList<>();
    private int club, year;
    private final Map<String, int[]> meanings = new HashMap<>();
    private final List<List<Clause>> sentences = new ArrayList<>();
    private final List<List<Integer>> worldList = new ArrayList<>();
    private final List<Integer> firsts = new ArrayList<>();
    private final Map<String, List<Integer>> tongues = new HashMap<>();
    private final Set<String> knowing = new HashSet<>();
    private final Map<String, Integer> hearings = new HashMap<>();
    private final Map<String, Set<Integer>> heardIn = new HashMap<>();
    private final List<Journal> journals = new ArrayList<>();
    private int needed = 2, months;
    private final List<Body> bodies = new ArrayList<>();
    private final List<Integer> beyonds = new ArrayList<>();
    private final Map<String, Integer> written = new HashMap<>();
    private final Map<Integer, Integer> used = new HashMap<>();
    private final List<int[]> pairs = new ArrayList<>();
    private final List<Integer> sessions = new ArrayList<>();
    private int turns = 2, rooms = 2;
    private final Set<String> roads = new TreeSet<>();
    private int forbidding, traced, latestFault;

    PlainTongue() {
        worldList.add(List.of());
        for (int a = 0; a < 16; a++) worldList.add(List.of(a));
        for (int a = 0; a < 16; a++) for (int b = 0; b < 16; b++) if (a <= b) worldList.add(List.of(a, b));
        for (int a = 0; a < 16; a++) for (int b = 0; b < 16; b++) for (int c = 0; c < 16; c++) {
            if (a <= b && b <= c) worldList.add(List.of(a, b, c));
        }
    }

    private static boolean in(int v, int from, int to) { return from <= v && v <= to; }

    private int fail(int fault) { latestFault = fault; return -10 - fault; }

    /** The machine itself finds the FAULTS; the answer is 0, or one of them. */
    private Taken take(int sheet, int lane, int i, long n) {
        try {
            Object row = sheets[sheet];
            Object as = lane == 0 ? (byte[]) row : lane == 1 ? (short[]) row : (int[]) row;
            int length = java.lang.reflect.Array.getLength(as);
            int size = (int) Math.max(-1, Math.min(n, 1000));
            Object out = java.lang.reflect.Array.newInstance(as.getClass().getComponentType(), size);
            System.arraycopy(as, i, out, 0, size);
            List<Integer> cells = new ArrayList<>();
            for (int k = 0; k < size && k < length; k++) cells.add(((Number) java.lang.reflect.Array.get(out, k)).intValue());
            return new Taken(0, cells);
        } catch (NullPointerException e) {
            return new Taken(fail(1), null);
        } catch (ClassCastException e) {
            return new Taken(fail(2), null);
        } catch (IndexOutOfBoundsException e) {
            return new Taken(fail(3), null);
        } catch (NegativeArraySizeException e) {
            return new Taken(fail(4), null);
        }
    }

    private static boolean lettersOnly(List<Integer> cells) {
        return cells.stream().allMatch(v -> in(v, 1, 26));
    }

    private boolean isRoot(int x) { return in(x, 0, roots.size() - 1); }

    private boolean isPerson(int p) { return in(p, 0, firsts.size() - 1); }

    private boolean arePersons(int set) {
        for (int bit = 0; bit < 32; bit++) if ((set & 1 << bit) != 0 && !isPerson(bit)) return false;
        return true;
    }

    // 1

    int root(int kind, int cls, int sheet, int lane, int i, int n) {
        latestFault = 0;
        if (!in(sheet, 0, 3)) return UNKNOWN;
        if (!in(kind, 0, 2) || !in(cls, 0, 3) || !in(lane, 0, 2)) return OUTSIDE;
        Taken t = take(sheet, lane, i, n);
        if (t.answer != 0) return t.answer;
        if (!in(n, 1, 4) || !lettersOnly(t.cells)) return OUTSIDE;
        for (Root r : roots) if (r.letters.equals(t.cells)) return STATE;
        if (roots.size() == 16) return FULL;
        roots.add(new Root(kind, cls, t.cells));
        return roots.size() - 1;
    }

    int ending(int from, int to, int sheet, int lane, int i, int n) {
        latestFault = 0;
        if (!in(sheet, 0, 3)) return UNKNOWN;
        if (!in(from, 0, 3) || !in(to, 0, 3) || !in(lane, 0, 2)) return OUTSIDE;
        Taken t = take(sheet, lane, i, n);
        if (t.answer != 0) return t.answer;
        if (!in(n, 1, 2) || !lettersOnly(t.cells)) return OUTSIDE;
        if (endings.size() == 8) return FULL;
        endings.add(new Ending(from, to, t.cells));
        return endings.size() - 1;
    }

    int ofRoot(int x, int what) {
        if (!isRoot(x)) return UNKNOWN;
        Root r = roots.get(x);
        if (what == 0) return r.kind;
        if (what == 1) return r.cls;
        if (what == 2) return r.letters.size();
        if (what == 3) return used.getOrDefault(x, 0);
        if (what == 4) return pairOf(x);
        if (what >= 5 && what - 5 < r.letters.size()) return r.letters.get(what - 5);
        return OUTSIDE;
    }

    int rule(int ofClub, int from, int to, int sheet, int lane, int i, int n) {
        latestFault = 0;
        if (!in(sheet, 0, 3)) return UNKNOWN;
        if (!in(ofClub, -1, 3) || !in(from, 0, 999) || !in(to, 0, 999) || to < from || !in(lane, 0, 2)) return OUTSIDE;
        Taken t = take(sheet, lane, i, n);
        if (t.answer != 0) return t.answer;
        StringBuilder text = new StringBuilder();
        for (int v : t.cells) text.append(in(v, 1, 127) ? (char) v : '?');
        for (int end = 1; end <= n; end++) {
            Matcher m = TEXT.matcher(text.substring(0, end));
            if (!m.matches() && !m.hitEnd()) return -100 - (end - 1);
        }
        if (!TEXT.matcher(text).matches()) return -100 - n;
        if (rules.size() == 10) return FULL;
        rules.add(new Rule(ofClub, from, to, text.toString()));
        return rules.size() - 1;
    }

    int stand(int otherClub, int otherYear) {
        if (!in(otherClub, 0, 3) || !in(otherYear, 0, 999)) return OUTSIDE;
        if (club == otherClub && year == otherYear) return 0;
        club = otherClub;
        year = otherYear;
        return 1;
    }

    /** The RULE that tells of two CLASSES, and whether they may be JOINED. */
    private int[] teller(int x, int y) {
        String both = "nvao".charAt(x) + "+" + "nvao".charAt(y);
        for (int k = rules.size() - 1; k >= 0; k--) {
            Rule r = rules.get(k);
            if (r.club != -1 && r.club != club || year < r.from || year > r.to) continue;
            String[] clauses = r.text.split(",");
            for (int c = clauses.length - 1; c >= 0; c--) {
                if (clauses[c].equals(both)) return new int[] {k, 1};
                if (clauses[c].equals("!" + both)) return new int[] {k, 0};
            }
        }
        return new int[] {NONE, 0};
    }

    int may(int x, int y) {
        return in(x, 0, 3) && in(y, 0, 3) ? teller(x, y)[1] : OUTSIDE;
    }

    int why(int x, int y) {
        return in(x, 0, 3) && in(y, 0, 3) ? teller(x, y)[0] : OUTSIDE;
    }

    private static boolean stands(List<Integer> row, int at, List<Integer> letters) {
        return at + letters.size() <= row.size() && row.subList(at, at + letters.size()).equals(letters);
    }

    private boolean[][] joinedNow() {
        boolean[][] all = new boolean[4][4];
        for (int x = 0; x < 4; x++) for (int y = 0; y < 4; y++) all[x][y] = teller(x, y)[1] == 1;
        return all;
    }

    /** How many WAYS lead from the start to each place and CLASS. */
    private long waysOf(List<Integer> row, boolean[][] joined) {
        long[][] to = new long[row.size() + 1][4];
        for (Root r : roots) if (stands(row, 0, r.letters)) to[r.letters.size()][r.cls]++;
        for (int at = 1; at < row.size(); at++) for (int cls = 0; cls < 4; cls++) {
            if (to[at][cls] == 0) continue;
            for (Root r : roots) {
                if (joined[cls][r.cls] && stands(row, at, r.letters)) to[at + r.letters.size()][r.cls] += to[at][cls];
            }
            for (Ending e : endings) {
                if (e.from == cls && stands(row, at, e.letters)) to[at + e.letters.size()][e.to] += to[at][cls];
            }
        }
        return Arrays.stream(to[row.size()]).sum();
    }

    private int refuseRow(int sheet, int lane, int i, int n, List<Integer> cells) {
        latestFault = 0;
        if (!in(sheet, 0, 3)) return UNKNOWN;
        if (!in(lane, 0, 2)) return OUTSIDE;
        Taken t = take(sheet, lane, i, n);
        if (t.answer != 0) return t.answer;
        if (!in(n, 1, 20) || !lettersOnly(t.cells)) return OUTSIDE;
        cells.addAll(t.cells);
        return 0;
    }

    int ways(int sheet, int lane, int i, int n) {
        List<Integer> row = new ArrayList<>();
        int refused = refuseRow(sheet, lane, i, n, row);
        return refused != 0 ? refused : (int) Math.min(1000000, waysOf(row, joinedNow()));
    }

    /** The first WAY from a place on, or null; dead ends are told by place and CLASS. */
    private List<Integer> firstWay(List<Integer> row, int at, int cls, boolean[][] joined, Set<Integer> dead) {
        if (at == row.size()) return new ArrayList<>();
        if (dead.contains(at * 8 + cls + 1)) return null;
        for (int x = 0; x < roots.size(); x++) {
            Root r = roots.get(x);
            if (cls >= 0 && !joined[cls][r.cls] || !stands(row, at, r.letters)) continue;
            List<Integer> rest = firstWay(row, at + r.letters.size(), r.cls, joined, dead);
            if (rest != null) { rest.add(0, x); return rest; }
        }
        for (int y = 0; y < endings.size(); y++) {
            Ending e = endings.get(y);
            if (cls != e.from || !stands(row, at, e.letters)) continue;
            List<Integer> rest = firstWay(row, at + e.letters.size(), e.to, joined, dead);
            if (rest != null) { rest.add(0, 100 + y); return rest; }
        }
        dead.add(at * 8 + cls + 1);
        return null;
    }

    int parse(int sheet, int lane, int i, int n, int k) {
        latestFault = 0;
        if (!in(k, 0, 19)) return UNKNOWN;
        List<Integer> row = new ArrayList<>();
        int refused = refuseRow(sheet, lane, i, n, row);
        if (refused != 0) return refused;
        List<Integer> way = firstWay(row, 0, -1, joinedNow(), new HashSet<>());
        return way == null || k >= way.size() ? NONE : way.get(k);
    }

    private void gather(List<Integer> row, int cls, int parts, boolean[][] joined, Set<List<Integer>> all) {
        if (parts > 0) all.add(row);
        if (parts == 3) return;
        for (Root r : roots) if (parts == 0 || joined[cls][r.cls]) gather(plus(row, r.letters), r.cls, parts + 1, joined, all);
        for (Ending e : endings) if (parts > 0 && e.from == cls) gather(plus(row, e.letters), e.to, parts + 1, joined, all);
    }

    private static List<Integer> plus(List<Integer> row, List<Integer> more) {
        List<Integer> both = new ArrayList<>(row);
        both.addAll(more);
        return both;
    }

    int two(int k) {
        if (!in(k, -1, 11)) return UNKNOWN;
        boolean[][] joined = joinedNow();
        Set<List<Integer>> all = new TreeSet<>(BY_LENGTH_THEN_LETTERS);
        gather(List.of(), -1, 0, joined, all);
        for (List<Integer> row : all) {
            if (waysOf(row, joined) < 2) continue;
            if (k == -1) return row.size();
            return k < row.size() ? row.get(k) : NONE;
        }
        return NONE;
    }

    // 2

    private int[] meaning(int ofClub, int x) { return meanings.getOrDefault(ofClub + " " + x, new int[2]); }

    int mean(int ofClub, int x, int has, int not) {
        if (!isRoot(x)) return UNKNOWN;
        if (!in(ofClub, 0, 3) || !in(has, 0, 15) || !in(not, 0, 15)) return OUTSIDE;
        int[] was = meaning(ofClub, x);
        meanings.put(ofClub + " " + x, new int[] {has, not});
        return 16 * was[0] + was[1];
    }

    int sentence(int sheet, int lane, int i, int n) {
        latestFault = 0;
        if (!in(sheet, 0, 3)) return UNKNOWN;
        if (!in(lane, 0, 2)) return OUTSIDE;
        Taken t = take(sheet, lane, i, 3L * n);
        if (t.answer != 0) return t.answer;
        if (!in(n, 1, 4)) return OUTSIDE;
        List<Clause> clauses = new ArrayList<>();
        for (int k = 0; k < n; k++) clauses.add(new Clause(t.cells.get(3 * k), t.cells.get(3 * k + 1), t.cells.get(3 * k + 2)));
        for (Clause c : clauses) if (!in(c.sort, 0, 2)) return OUTSIDE;
        for (Clause c : clauses) if (!isRoot(c.x) || !isRoot(c.y)) return UNKNOWN;
        if (sentences.size() == 10) return FULL;
        sentences.add(clauses);
        return sentences.size() - 1;
    }

    int world(int number, int k) {
        if (!in(number, 0, 968) || !in(k, 0, 2)) return OUTSIDE;
        List<Integer> world = worldList.get(number);
        return k < world.size() ? world.get(k) : NONE;
    }

    private boolean is(int ofClub, int x, int thing) {
        int[] m = meaning(ofClub, x);
        return (m[0] & ~thing) == 0 && (m[1] & thing) == 0;
    }

    private boolean trueIn(int sentence, int ofClub, int number) {
        for (Clause c : sentences.get(sentence)) {
            boolean all = true, some = false;
            for (int thing : worldList.get(number)) {
                if (!is(ofClub, c.x, thing)) continue;
                if (is(ofClub, c.y, thing)) some = true;
                else all = false;
            }
            if (c.sort == 0 && !all || c.sort == 1 && !some || c.sort == 2 && some) return false;
        }
        return true;
    }

    private boolean isSentence(int s) { return in(s, 0, sentences.size() - 1); }

    int isTrue(int sentence, int ofClub, int world) {
        if (!isSentence(sentence)) return UNKNOWN;
        if (!in(ofClub, 0, 3) || !in(world, 0, 968)) return OUTSIDE;
        return trueIn(sentence, ofClub, world) ? 1 : 0;
    }

    int differ(int sentence, int ofClub, int other) {
        if (!isSentence(sentence)) return UNKNOWN;
        if (!in(ofClub, 0, 3) || !in(other, 0, 3)) return OUTSIDE;
        for (int w = 0; w < 969; w++) if (trueIn(sentence, ofClub, w) && !trueIn(sentence, other, w)) return w;
        return NONE;
    }

    int worlds(int sentence, int ofClub) {
        if (!isSentence(sentence)) return UNKNOWN;
        if (!in(ofClub, 0, 3)) return OUTSIDE;
        int count = 0;
        for (int w = 0; w < 969; w++) if (trueIn(sentence, ofClub, w)) count++;
        return count;
    }

    // 3

    int person(int first) {
        if (!in(first, 0, 3)) return OUTSIDE;
        if (firsts.size() == 12) return FULL;
        firsts.add(first);
        return firsts.size() - 1;
    }

    int tongue(int t, int x, int sheet, int lane, int i, int n) {
        latestFault = 0;
        if (!isRoot(x) || !in(sheet, 0, 3)) return UNKNOWN;
        if (!in(t, 0, 3) || !in(lane, 0, 2)) return OUTSIDE;
        Taken taken = take(sheet, lane, i, n);
        if (taken.answer != 0) return taken.answer;
        if (n > 4 || !lettersOnly(taken.cells)) return OUTSIDE;
        tongues.put(t + " " + x, taken.cells);
        return n;
    }

    private static int changes(List<Integer> a, List<Integer> b) {
        if (a.isEmpty()) return b.size();
        if (b.isEmpty()) return a.size();
        List<Integer> restA = a.subList(1, a.size()), restB = b.subList(1, b.size());
        int changed = changes(restA, restB) + (a.get(0).equals(b.get(0)) ? 0 : 1);
        return Math.min(changed, 1 + Math.min(changes(restA, b), changes(a, restB)));
    }

    private int monthsFor(int p, int x, List<Integer> letters) {
        return 1 + changes(tongues.getOrDefault(firsts.get(p) + " " + x, List.of()), letters);
    }

    int easy(int p, int x) {
        return isPerson(p) && isRoot(x) ? monthsFor(p, x, roots.get(x).letters) : UNKNOWN;
    }

    private boolean know(int p, int x) { return knowing.contains(p + " " + x); }

    int learn(int p, int x, boolean is) {
        if (!isPerson(p) || !isRoot(x)) return UNKNOWN;
        if (know(p, x) == is) return 0;
        become(p, x, is);
        return 1;
    }

    private void become(int p, int x, boolean is) {
        String key = p + " " + x;
        hearings.remove(key);
        if (is) {
            knowing.add(key);
            heardIn.computeIfAbsent(key, k -> new HashSet<>()).add(months);
        } else {
            knowing.remove(key);
        }
    }

    int knows(int p) {
        if (!isPerson(p)) return UNKNOWN;
        int set = 0;
        for (int x = 0; x < roots.size(); x++) if (know(p, x)) set |= 1 << x;
        return set;
    }

    long reform(int x, int what, int sheet, int lane, int i, int n) {
        latestFault = 0;
        if (!isRoot(x) || !in(sheet, 0, 3)) return LOST;
        if (!in(lane, 0, 2) || !in(what, 0, 1)) return LOST;
        Taken t = take(sheet, lane, i, n);
        if (t.answer != 0) return LOST;
        if (!in(n, 1, 4) || !lettersOnly(t.cells)) return LOST;
        long saved = 0, cost = 0;
        for (int p = 0; p < firsts.size(); p++) {
            if (know(p, x)) cost += monthsFor(p, x, t.cells);
            else saved += easy(p, x) - monthsFor(p, x, t.cells);
        }
        return what == 0 ? saved : cost;
    }

    int journal(int writers, int readers) {
        if (!arePersons(writers) || !arePersons(readers)) return OUTSIDE;
        if (journals.size() == 6) return FULL;
        journals.add(new Journal(writers, readers));
        return journals.size() - 1;
    }

    int need(int n) {
        if (!in(n, 1, 9)) return OUTSIDE;
        int was = needed;
        needed = n;
        return was;
    }

    int month() {
        months++;
        for (Journal j : journals) for (int x = 0; x < roots.size(); x++) {
            boolean told = false;
            for (int p = 0; p < firsts.size(); p++) if ((j.writers & 1 << p) != 0 && know(p, x)) told = true;
            for (int p = 0; told && p < firsts.size(); p++) {
                if ((j.readers & 1 << p) == 0) continue;
                heardIn.computeIfAbsent(p + " " + x, k -> new HashSet<>()).add(months);
                if (!know(p, x)) hearings.merge(p + " " + x, 1, Integer::sum);
            }
        }
        List<int[]> come = new ArrayList<>(), gone = new ArrayList<>();
        for (int p = 0; p < firsts.size(); p++) {
            final int bit = 1 << p;
            boolean writes = journals.stream().anyMatch(j -> (j.writers & bit) != 0);
            for (int x = 0; x < roots.size(); x++) {
                boolean lately = false;
                for (int m = months - 5; m <= months; m++) {
                    if (heardIn.getOrDefault(p + " " + x, Set.of()).contains(m)) lately = true;
                }
                if (!know(p, x) && hearings.getOrDefault(p + " " + x, 0) >= needed) come.add(new int[] {p, x});
                if (know(p, x) && !lately && !writes) gone.add(new int[] {p, x});
            }
        }
        come.forEach(c -> become(c[0], c[1], true));
        gone.forEach(g -> become(g[0], g[1], false));
        return come.size() + 1000 * gone.size();
    }

    int heard(int p, int x) {
        if (!isPerson(p) || !isRoot(x)) return UNKNOWN;
        return know(p, x) ? 0 : hearings.getOrDefault(p + " " + x, 0);
    }

    int spread(int x) {
        if (!isRoot(x)) return UNKNOWN;
        int set = 0;
        for (int p = 0; p < firsts.size(); p++) if (know(p, x)) set |= 1 << p;
        return set;
    }

    // 4

    int body(int persons, int acts, int share) {
        if (!arePersons(persons) || persons == 0 || !in(acts, 0, 7) || !in(share, 1, 10)) return OUTSIDE;
        if (bodies.size() == 4) return FULL;
        bodies.add(new Body(persons, acts, share));
        beyonds.add(0);
        return bodies.size() - 1;
    }

    private static int bits(int set) {
        int count = 0;
        for (int bit = 0; bit < 32; bit++) if ((set & 1 << bit) != 0) count++;
        return count;
    }

    int vote(int b, int act, int yes) {
        if (!in(b, 0, bodies.size() - 1)) return UNKNOWN;
        Body body = bodies.get(b);
        if (!in(act, 0, 2) || (yes | body.persons) != body.persons) return OUTSIDE;
        boolean passes = 10 * bits(yes) >= body.share * bits(body.persons);
        if ((body.acts & 1 << act) != 0) return passes ? 1 : 0;
        beyonds.set(b, beyonds.get(b) + 1);
        return passes ? 3 : 2;
    }

    int beyond(int b) {
        return in(b, 0, bodies.size() - 1) ? beyonds.get(b) : UNKNOWN;
    }

    int seats() {
        int set = 0;
        for (int p = 0; p < 12; p++) {
            int in = 0;
            for (Body b : bodies) if ((b.persons & 1 << p) != 0) in++;
            if (in >= 2) set |= 1 << p;
        }
        return set;
    }

    private static String both(int p, int q) { return Math.min(p, q) + " " + Math.max(p, q); }

    int letters(int p, int q, int v) {
        if (!isPerson(p) || !isPerson(q)) return UNKNOWN;
        if (!in(v, 0, 99) || p == q) return OUTSIDE;
        Integer was = written.put(both(p, q), v);
        return was == null ? 0 : was;
    }

    int part(int p, int q, int what) {
        if (!isPerson(p) || !isPerson(q)) return UNKNOWN;
        if (!in(what, 0, 1) || p == q) return OUTSIDE;
        int[][] between = new int[12][12];
        for (int a = 0; a < 12; a++) for (int b = 0; b < 12; b++) between[a][b] = written.getOrDefault(both(a, b), 0);
        int least = Integer.MAX_VALUE, leastSet = 0;
        for (int set = 0; set < 1 << firsts.size(); set++) {
            if ((set & 1 << p) == 0 || (set & 1 << q) != 0) continue;
            int sum = 0;
            for (int a = 0; a < firsts.size(); a++) for (int b = 0; b < firsts.size(); b++) {
                if ((set & 1 << a) != 0 && (set & 1 << b) == 0) sum += between[a][b];
            }
            if (sum < least) { least = sum; leastSet = set; }
        }
        return what == 0 ? leastSet : least;
    }

    int uses(int x, int v) {
        if (!isRoot(x)) return UNKNOWN;
        if (!in(v, 0, 999)) return OUTSIDE;
        Integer was = used.put(x, v);
        return was == null ? 0 : was;
    }

    private int pairOf(int x) {
        for (int k = 0; k < pairs.size(); k++) if (pairs.get(k)[0] == x || pairs.get(k)[1] == x) return k;
        return NONE;
    }

    int pair(int x, int y) {
        if (!isRoot(x) || !isRoot(y)) return UNKNOWN;
        if (x == y) return OUTSIDE;
        if (pairOf(x) != NONE || pairOf(y) != NONE) return STATE;
        if (pairs.size() == 8) return FULL;
        pairs.add(new int[] {x, y});
        return pairs.size() - 1;
    }

    int keep(int what) {
        if (!in(what, 0, 1)) return OUTSIDE;
        int least = Integer.MAX_VALUE, leastBits = NONE;
        for (int bits = 0; bits < 1 << pairs.size(); bits++) {
            List<Integer> kept = new ArrayList<>();
            int sum = 0;
            for (int k = 0; k < pairs.size(); k++) {
                int side = bits >> k & 1;
                int x = pairs.get(k)[side], lost = pairs.get(k)[1 - side];
                kept.add(x);
                sum += used.getOrDefault(lost, 0);
                for (int p = 0; p < firsts.size(); p++) if (!know(p, x)) sum += easy(p, x);
            }
            boolean apart = true;
            for (int a : kept) for (int b : kept) {
                if (changes(roots.get(a).letters, roots.get(b).letters) == 1) apart = false;
            }
            if (apart && sum < least) { least = sum; leastBits = bits; }
        }
        return leastBits == NONE ? NONE : what == 0 ? leastBits : least;
    }

    // 5

    int session(int wanted) {
        if (!arePersons(wanted)) return OUTSIDE;
        if (sessions.size() == 6) return FULL;
        sessions.add(wanted);
        return sessions.size() - 1;
    }

    int hall(int turnsThen, int roomsThen) {
        if (!in(turnsThen, 1, 3) || !in(roomsThen, 1, 4)) return OUTSIDE;
        turns = turnsThen;
        rooms = roomsThen;
        return 1;
    }

    int table(int s) {
        if (!in(s, -1, sessions.size() - 1)) return UNKNOWN;
        int most = -1;
        List<Integer> best = null;
        int all = (int) Math.pow(turns, sessions.size());
        for (int number = 0; number < all; number++) {
            List<Integer> row = new ArrayList<>();
            for (int k = 0, rest = number; k < sessions.size(); k++, rest /= turns) row.add(0, rest % turns);
            int heard = 0;
            boolean fits = true;
            for (int turn = 0; turn < turns; turn++) {
                int inTurn = 0, hearers = 0;
                for (int k = 0; k < row.size(); k++) if (row.get(k) == turn) { inTurn++; hearers |= sessions.get(k); }
                heard += bits(hearers);
                fits &= inTurn <= rooms;
            }
            if (fits && heard > most) { most = heard; best = row; }
        }
        return best == null ? NONE : s == -1 ? most : best.get(s);
    }

    int road(int a, int b, boolean is) {
        if (!in(a, 0, 9) || !in(b, 0, 9)) return UNKNOWN;
        if (a == b) return OUTSIDE;
        return (is ? roads.add(both(a, b)) : roads.remove(both(a, b))) ? 1 : 0;
    }

    int forbid(int set) {
        if (!in(set, 0, 1023)) return OUTSIDE;
        int was = forbidding;
        forbidding = set;
        return was;
    }

    private int[] distances(int a) {
        int[] far = new int[10];
        Arrays.fill(far, 100);
        far[a] = 0;
        for (int turn = 0; turn < 10; turn++) for (int c = 0; c < 10; c++) for (int b = 0; b < 10; b++) {
            boolean open = c == a || (forbidding & 1 << c) == 0;
            if (open && roads.contains(both(c, b)) && far[c] + 1 < far[b]) far[b] = far[c] + 1;
        }
        return far;
    }

    int letter(int a, int b) {
        if (!in(a, 0, 9) || !in(b, 0, 9)) return UNKNOWN;
        int far = distances(a)[b];
        return far >= 100 ? NONE : far;
    }

    int round(int a) {
        return in(a, 0, 9) ? (int) Arrays.stream(distances(a)).filter(far -> far < 100).count() : UNKNOWN;
    }

    // 6

    int sheet(int k, int lane, int n) {
        latestFault = 0;
        if (!in(k, 0, 3)) return UNKNOWN;
        if (!in(lane, 0, 2) || n > 60) return OUTSIDE;
        if (n < 0) return fail(4);
        sheets[k] = lane == 0 ? new byte[n] : lane == 1 ? new short[n] : new int[n];
        return 1;
    }

    int lose(int k) {
        if (!in(k, 0, 3)) return UNKNOWN;
        boolean had = sheets[k] != null;
        sheets[k] = null;
        return had ? 1 : 0;
    }

    int put(int k, int i, int v) {
        latestFault = 0;
        if (!in(k, 0, 3)) return UNKNOWN;
        try {
            if (sheets[k] instanceof byte[] row) row[i] = (byte) v;
            else if (sheets[k] instanceof short[] row) row[i] = (short) v;
            else ((int[]) sheets[k])[i] = v;
            return 1;
        } catch (NullPointerException e) {
            return fail(1);
        } catch (IndexOutOfBoundsException e) {
            return fail(3);
        }
    }

    long cell(int k, int i, int lane) {
        latestFault = 0;
        if (!in(k, 0, 3) || !in(lane, 0, 2)) return LOST;
        try {
            Object row = sheets[k];
            return lane == 0 ? ((byte[]) row)[i] : lane == 1 ? ((short[]) row)[i] : ((int[]) row)[i];
        } catch (NullPointerException e) {
            latestFault = 1;
        } catch (ClassCastException e) {
            latestFault = 2;
        } catch (IndexOutOfBoundsException e) {
            latestFault = 3;
        }
        return LOST;
    }

    int copy(int k, int i, int other, int j, int n) {
        latestFault = 0;
        if (!in(k, 0, 3) || !in(other, 0, 3)) return UNKNOWN;
        try {
            System.arraycopy(sheets[k], i, sheets[other], j, n);
            return n;
        } catch (NullPointerException e) {
            return fail(1);
        } catch (ArrayStoreException e) {
            return fail(2);
        } catch (IndexOutOfBoundsException e) {
            return fail(3);
        }
    }

    private void leave(int number) { traced = 31 * traced + number; }

    int tell(int x) {
        if (!isRoot(x)) return UNKNOWN;
        Root r = roots.get(x);
        int size = r.letters.size();
        int[][] bodiesRun = {{1}, {2, 1}, {3, 2, 1, 1}};
        for (int number : bodiesRun[r.kind]) leave(number);
        return new int[] {size, size + r.cls + 10, size + r.cls + 10 + size}[r.kind];
    }

    int say(int x) {
        if (!isRoot(x)) return UNKNOWN;
        leave(roots.get(x).kind == 2 ? 5 : 4);
        return roots.get(x).kind == 2 ? 70 : x;
    }

    int as(int x, int kind) {
        latestFault = 0;
        if (!isRoot(x)) return UNKNOWN;
        if (!in(kind, 0, 2)) return OUTSIDE;
        return roots.get(x).kind >= kind ? 1 : fail(2);
    }

    int trace() { return traced; }

    int fault() { return latestFault; }

    int many(int what) {
        int[] all = {roots.size(), endings.size(), rules.size(), sentences.size(), firsts.size(), journals.size(),
            bodies.size(), pairs.size(), sessions.size(), months, roads.size()};
        return in(what, 0, 10) ? all[what] : OUTSIDE;
    }
}
