import java.util.ArrayList;
import java.util.Arrays;
import java.util.Comparator;
import java.util.HashMap;
import java.util.HashSet;
import java.util.List;
import java.util.Map;
import java.util.Set;
import java.util.TreeMap;

/** The document once more, written for likeness to its words and not for speed: each answer anew from what was told. */
final class Model {
    static final int NONE = -1, BAD = -2, STATE = -3, FULL = -4;
    static final long NO = Long.MIN_VALUE;

    record Row(int number, int parent, int service, int act, int kind, int failed, long begin, long end) { }

    record Piece(Row row, long from, long to) { }

    private final List<Map<Integer, Row>> traces = new ArrayList<>();
    private final int[] state = new int[20];
    private final Map<Integer, List<Integer>> paths = new HashMap<>();
    private final Map<Integer, Integer> keptBy = new HashMap<>();
    private final Map<Integer, Integer> standsFor = new HashMap<>();
    private final List<Integer> keptOnes = new ArrayList<>();
    private final List<Row> gone = new ArrayList<>();
    private final int[] slow = new int[8];
    private int quota = 1;
    private int alike, unlike, late, missed, closed;
    private final long[] d = new long[6];
    private final Map<Integer, Long> tried = new HashMap<>();
    private List<Piece> latest = new ArrayList<>();

    Model() {
        for (int i = 0; i < 20; i++) {
            traces.add(new TreeMap<>());
        }
    }

    private static boolean in(long n, long low, long high) {
        return low <= n && n <= high;
    }

    private List<Row> all() {
        List<Row> rows = new ArrayList<>();
        traces.forEach(t -> rows.addAll(t.values()));
        return rows;
    }

    int report(int trace, int number, int parent, int service, int act, int kind, long begin, long end) {
        boolean fine = in(trace, 0, 19) && in(number, 1, 999) && in(parent, 0, 999) && in(service, 0, 5)
            && in(act, 0, 7) && (in(kind, 0, 4) || in(kind - 8L, 0, 4)) && in(begin, 0, 1000000000L)
            && in(end, 0, 1000000000L) && end >= begin;
        if (!fine) {
            return BAD;
        }
        if (state[trace] != 0) {
            late++;
            return STATE;
        }
        Row told = new Row(number, parent, service, act, kind >= 8 ? kind - 8 : kind, kind >= 8 ? 1 : 0, begin, end);
        Map<Integer, Row> t = traces.get(trace);
        Row old = t.get(number);
        if (old == null) {
            if (t.size() == 30 || all().size() == 200) {
                return FULL;
            }
            t.put(number, told);
            return 1;
        }
        if (old.equals(told)) {
            alike++;
            return 0;
        }
        unlike++;
        Comparator<Row> less = Comparator.comparingInt(Row::parent).thenComparingInt(Row::service)
            .thenComparingInt(Row::act).thenComparingInt(Row::kind).thenComparingInt(Row::failed)
            .thenComparingLong(Row::begin).thenComparingLong(Row::end);
        if (less.compare(told, old) < 0) {
            t.put(number, told);
            return 2;
        }
        return 3;
    }

    int spans(int trace) {
        return in(trace, 0, 19) ? traces.get(trace).size() : NONE;
    }

    private Row row(int trace, int number) {
        return in(trace, 0, 19) ? traces.get(trace).get(number) : null;
    }

    private boolean hole(int trace, Row r) {
        return r.parent() != 0 && row(trace, r.parent()) == null;
    }

    /** From the span to its root; null: lost. */
    private List<Row> climb(int trace, Row r) {
        List<Row> passed = new ArrayList<>();
        Row at = r;
        while (!passed.contains(at)) {
            passed.add(at);
            if (at.parent() == 0 || hole(trace, at)) {
                return passed;
            }
            at = row(trace, at.parent());
        }
        return null;
    }

    private Row rootOf(int trace, Row r) {
        List<Row> passed = climb(trace, r);
        return passed == null ? null : passed.get(passed.size() - 1);
    }

    private static void sort(List<Row> rows) {
        rows.sort(Comparator.comparingLong(Row::begin).thenComparingInt(Row::number));
    }

    private List<Row> kids(int trace, int number) {
        List<Row> rows = new ArrayList<>();
        for (Row r : traces.get(trace).values()) {
            if (r.parent() == number && climb(trace, r) != null) {
                rows.add(r);
            }
        }
        sort(rows);
        return rows;
    }

    private List<Row> roots(int trace) {
        List<Row> rows = new ArrayList<>();
        for (Row r : traces.get(trace).values()) {
            if (rootOf(trace, r) == r) {
                rows.add(r);
            }
        }
        sort(rows);
        return rows;
    }

    int span(int trace, int number, int what) {
        Row r = row(trace, number);
        if (r == null || !in(what, 0, 8)) {
            return NONE;
        }
        List<Row> passed = climb(trace, r);
        return switch (what) {
            case 0 -> r.parent();
            case 1 -> r.service();
            case 2 -> r.act();
            case 3 -> r.kind();
            case 4 -> r.failed();
            case 5 -> hole(trace, r) ? 1 : 0;
            case 6 -> passed == null ? BAD : passed.size() - 1;
            case 7 -> passed == null ? BAD : rootOf(trace, r).number();
            default -> kids(trace, number).size();
        };
    }

    private static int pick(List<Row> rows, int i) {
        return in(i, 0, rows.size() - 1) ? rows.get(i).number() : NONE;
    }

    int kid(int trace, int number, int i) {
        return row(trace, number) == null ? NONE : pick(kids(trace, number), i);
    }

    int root(int trace, int i) {
        return in(trace, 0, 19) ? pick(roots(trace), i) : NONE;
    }

    int trace(int trace, int what) {
        if (!in(trace, 0, 19) || !in(what, 0, 4)) {
            return NONE;
        }
        Set<Integer> holes = new HashSet<>();
        int lost = 0;
        for (Row r : traces.get(trace).values()) {
            if (hole(trace, r)) {
                holes.add(r.parent());
            }
            if (climb(trace, r) == null) {
                lost++;
            }
        }
        return switch (what) {
            case 0 -> roots(trace).size();
            case 1 -> holes.size();
            case 2 -> lost;
            case 3 -> pairs(trace).size();
            default -> state[trace];
        };
    }

    long time(int trace, int number, boolean end, boolean moved) {
        Row r = row(trace, number);
        return r == null ? NO : (end ? r.end() : r.begin()) + (moved ? d[r.service()] : 0);
    }

    /** Each pair: the caller, the called. */
    private List<Row[]> pairs(int trace) {
        List<Row[]> found = new ArrayList<>();
        for (Row r : traces.get(trace).values()) {
            Row p = row(trace, r.parent());
            if (p == null || p.service() == r.service()) {
                continue;
            }
            if (r.kind() == 2 && p.kind() == 1 || r.kind() == 4 && p.kind() == 3) {
                found.add(new Row[] {p, r});
            }
        }
        return found;
    }

    private List<Row[]> pairs() {
        List<Row[]> found = new ArrayList<>();
        for (int t = 0; t < 20; t++) {
            found.addAll(pairs(t));
        }
        return found;
    }

    /** What is told: x, y, the number that d(x) - d(y) is at most. */
    private List<long[]> told() {
        List<long[]> rows = new ArrayList<>();
        for (Row[] p : pairs()) {
            long x = p[0].service(), y = p[1].service();
            if (p[0].kind() == 1) {
                rows.add(new long[] {x, y, p[1].begin() - p[0].begin()});
                rows.add(new long[] {y, x, p[0].end() - p[1].end()});
            } else {
                rows.add(new long[] {x, y, p[1].begin() - p[0].end()});
            }
        }
        return rows;
    }

    private Long[][] bounds() {
        Long[][] b = new Long[6][6];
        for (long[] t : told()) {
            int x = (int) t[0], y = (int) t[1];
            b[x][y] = b[x][y] == null ? t[2] : Math.min(b[x][y], t[2]);
        }
        return b;
    }

    long bound(int x, int y) {
        if (!in(x, 0, 5) || !in(y, 0, 5) || bounds()[x][y] == null) {
            return NO;
        }
        return bounds()[x][y];
    }

    /** All rows of services, all unlike, along bounds, with their sums. */
    private void rows(Long[][] b, List<Integer> row, long sum, Map<List<Integer>, Long> into) {
        into.put(new ArrayList<>(row), sum);
        for (int x = 0; x < 6; x++) {
            if (!row.contains(x) && (row.isEmpty() || b[row.get(row.size() - 1)][x] != null)) {
                long step = row.isEmpty() ? 0 : b[row.get(row.size() - 1)][x];
                row.add(x);
                rows(b, row, sum + step, into);
                row.remove(row.size() - 1);
            }
        }
    }

    private Map<List<Integer>, Long> rows() {
        Map<List<Integer>, Long> into = new HashMap<>();
        rows(bounds(), new ArrayList<>(), 0, into);
        return into;
    }

    private static boolean isLess(List<Integer> a, List<Integer> b) {
        if (a.size() != b.size()) {
            return a.size() < b.size();
        }
        for (int i = 0; i < a.size(); i++) {
            if (!a.get(i).equals(b.get(i))) {
                return a.get(i) < b.get(i);
            }
        }
        return false;
    }

    private List<Integer> theRing() {
        Long[][] b = bounds();
        List<Integer> best = null;
        for (Map.Entry<List<Integer>, Long> e : rows().entrySet()) {
            List<Integer> row = e.getKey();
            if (row.size() < 2 || b[row.get(row.size() - 1)][row.get(0)] == null) {
                continue;
            }
            if (e.getValue() + b[row.get(row.size() - 1)][row.get(0)] < 0 && (best == null || isLess(row, best))) {
                best = row;
            }
        }
        return best;
    }

    private boolean agree() {
        return theRing() == null;
    }

    /** Only where they agree: then no least sum goes by a service twice. */
    private Long[][] far() {
        Long[][] far = new Long[6][6];
        rows().forEach((row, sum) -> {
            if (row.size() >= 2) {
                int x = row.get(0), y = row.get(row.size() - 1);
                far[x][y] = far[x][y] == null ? sum : Math.min(far[x][y], sum);
            }
        });
        return far;
    }

    long skew(int x, int y, int what) {
        if (!in(x, 0, 5) || !in(y, 0, 5) || x == y || !in(what, 0, 1) || !agree()) {
            return NO;
        }
        Long[][] far = far();
        if (what == 0) {
            return far[y][x] == null ? NO : -far[y][x];
        }
        return far[x][y] == null ? NO : far[x][y];
    }

    int ring(int i) {
        List<Integer> ring = theRing();
        return ring == null || !in(i, 0, ring.size() - 1) ? NONE : ring.get(i);
    }

    int put() {
        if (!agree()) {
            return STATE;
        }
        Long[][] far = far();
        long[] set = new long[6];
        int changed = 0;
        for (int x = 0; x < 6; x++) {
            // The nearest is 0 or the edge of what one FAR allows.
            List<Long> tries = new ArrayList<>(List.of(0L));
            for (int y = 0; y < x; y++) {
                if (far[x][y] != null) {
                    tries.add(set[y] + far[x][y]);
                }
                if (far[y][x] != null) {
                    tries.add(set[y] - far[y][x]);
                }
            }
            tries.sort(Comparator.comparingLong(Math::abs));
            for (long v : tries) {
                if (holds(far, set, x, v)) {
                    set[x] = v;
                    break;
                }
            }
            if (!holds(far, set, x, set[x])) {
                throw new IllegalStateException("nothing can be put");
            }
            changed += set[x] == d[x] ? 0 : 1;
        }
        System.arraycopy(set, 0, d, 0, 6);
        return changed;
    }

    private static boolean holds(Long[][] far, long[] set, int x, long v) {
        for (int y = 0; y < x; y++) {
            if (far[x][y] != null && v - set[y] > far[x][y] || far[y][x] != null && set[y] - v > far[y][x]) {
                return false;
            }
        }
        return true;
    }

    long moved(int service) {
        return in(service, 0, 5) ? d[service] : NO;
    }

    int attempt(int service, long v) {
        if (!in(service, 0, 5)) {
            return NONE;
        }
        if (!in(v, -10000000000L, 10000000000L)) {
            return BAD;
        }
        tried.put(service, v);
        return tried.size();
    }

    int check() {
        int least = NONE;
        for (long[] t : told()) {
            int x = (int) t[0], y = (int) t[1];
            if (tried.getOrDefault(x, 0L) - tried.getOrDefault(y, 0L) > t[2]) {
                least = least == NONE ? 6 * x + y : Math.min(least, 6 * x + y);
            }
        }
        tried.clear();
        return least;
    }

    private long begin(Row r) {
        return r.begin() + d[r.service()];
    }

    private long end(Row r) {
        return r.end() + d[r.service()];
    }

    private List<Piece> walk(int trace, Row x, long c, long f) {
        Row best = null;
        for (Row k : kids(trace, x.number())) {
            if (k.kind() > 2 || begin(k) >= end(k) || end(k) > c || end(k) <= f) {
                continue;
            }
            if (best == null || end(k) > end(best) || end(k) == end(best) && k.number() < best.number()) {
                best = k;
            }
        }
        List<Piece> pieces = new ArrayList<>();
        if (best == null) {
            pieces.add(new Piece(x, f, c));
            return pieces;
        }
        long g = Math.max(f, begin(best));
        if (g > f) {
            pieces.addAll(walk(trace, x, g, f));
        }
        pieces.addAll(walk(trace, best, end(best), g));
        if (end(best) < c) {
            pieces.add(new Piece(x, end(best), c));
        }
        return pieces;
    }

    private List<Piece> wayOf(int trace, Row root) {
        return root.begin() == root.end() ? new ArrayList<>() : walk(trace, root, end(root), begin(root));
    }

    int way(int trace, int i) {
        if (!in(trace, 0, 19) || !in(i, 0, roots(trace).size() - 1)) {
            return NONE;
        }
        latest = wayOf(trace, roots(trace).get(i));
        return latest.size();
    }

    long part(int i, int what) {
        if (!in(i, 0, latest.size() - 1) || !in(what, 0, 2)) {
            return NO;
        }
        Piece p = latest.get(i);
        return what == 0 ? p.row().number() : what == 1 ? p.from() : p.to();
    }

    long share(int trace, int number) {
        Row r = row(trace, number);
        if (r == null || climb(trace, r) == null) {
            return NO;
        }
        long sum = 0;
        for (Piece p : wayOf(trace, rootOf(trace, r))) {
            sum += p.row().number() == number ? p.to() - p.from() : 0;
        }
        return sum;
    }

    int slow(int act, int ticks) {
        if (!in(act, 0, 7)) {
            return NONE;
        }
        if (!in(ticks, 0, 1000000000)) {
            return BAD;
        }
        int was = slow[act];
        slow[act] = ticks;
        return was;
    }

    int quota(int n) {
        if (!in(n, 0, 20)) {
            return BAD;
        }
        int was = quota;
        quota = n;
        return was;
    }

    int close(int trace) {
        if (!in(trace, 0, 19)) {
            return NONE;
        }
        if (state[trace] != 0 || roots(trace).isEmpty()) {
            return STATE;
        }
        Row root = roots(trace).get(0);
        List<Integer> path = new ArrayList<>();
        for (Piece p : wayOf(trace, root)) {
            int here = 100 * p.row().service() + p.row().act();
            if (path.isEmpty() || path.get(path.size() - 1) != here) {
                path.add(here);
            }
        }
        int byThird = 0;
        int latestSame = -1;
        for (int k : keptOnes) {
            if (paths.get(k).equals(path)) {
                byThird += keptBy.get(k) == 3 ? 1 : 0;
                latestSame = k;
            }
        }
        int by = 0;
        if (slow[root.act()] != 0 && root.end() - root.begin() >= slow[root.act()]) {
            by = 1;
        } else if (traces.get(trace).values().stream().anyMatch(r -> r.failed() == 1)) {
            by = 2;
        } else if (byThird < quota) {
            by = 3;
        }
        closed++;
        state[trace] = by == 0 ? 2 : 1;
        paths.put(trace, path);
        if (by != 0) {
            keptOnes.add(trace);
            keptBy.put(trace, by);
            standsFor.put(trace, 1);
        } else if (latestSame >= 0) {
            standsFor.merge(latestSame, 1, Integer::sum);
        } else {
            missed++;
        }
        return by;
    }

    int kept(int i) {
        return in(i, 0, keptOnes.size() - 1) ? keptOnes.get(i) : NONE;
    }

    int stands(int trace) {
        return standsFor.getOrDefault(trace, NONE);
    }

    int drop(int trace) {
        if (!in(trace, 0, 19)) {
            return NONE;
        }
        int n = traces.get(trace).size();
        gone.addAll(traces.get(trace).values());
        traces.get(trace).clear();
        return n;
    }

    private static int stepOf(Row r) {
        long length = r.end() - r.begin();
        for (int j = 1; j <= 30; j++) {
            if (in(length, 1L << (j - 1), (1L << j) - 1)) {
                return j;
            }
        }
        return 0;
    }

    private List<Row> totals(int service, int act) {
        List<Row> rows = all();
        rows.addAll(gone);
        rows.removeIf(r -> r.service() != service || r.act() != act);
        return rows;
    }

    int total(int service, int act, int step) {
        if (!in(service, 0, 5) || !in(act, 0, 7) || !in(step, -2, 30)) {
            return NONE;
        }
        List<Row> rows = totals(service, act);
        if (step == -1) {
            return rows.size();
        }
        rows.removeIf(r -> step == -2 ? r.failed() == 0 : stepOf(r) != step);
        return rows.size();
    }

    int percent(int service, int act, int p) {
        if (!in(service, 0, 5) || !in(act, 0, 7) || totals(service, act).isEmpty()) {
            return NONE;
        }
        if (!in(p, 1, 100)) {
            return BAD;
        }
        int[] steps = totals(service, act).stream().mapToInt(Model::stepOf).sorted().toArray();
        // The n-th least, n the least number of spans that is p percent or more of them.
        int n = (p * steps.length + 99) / 100;
        return steps[n - 1];
    }

    int flow(int x, int y, int what) {
        if (!in(x, 0, 5) || !in(y, 0, 5) || !in(what, 0, 2)) {
            return NONE;
        }
        int n = 0;
        for (Map<Integer, Row> t : traces) {
            for (Row ask : t.values()) {
                if (ask.kind() != 1 || ask.service() != x) {
                    continue;
                }
                List<Row> serves = new ArrayList<>(t.values());
                serves.removeIf(r -> r.kind() != 2 || r.parent() != ask.number());
                boolean none = serves.isEmpty();
                serves.removeIf(r -> r.service() != y);
                boolean failed = ask.failed() == 1 || serves.stream().anyMatch(r -> r.failed() == 1);
                n += switch (what) {
                    case 0 -> serves.isEmpty() ? 0 : 1;
                    case 1 -> !serves.isEmpty() && failed ? 1 : 0;
                    default -> none ? 1 : 0;
                };
            }
        }
        return n;
    }

    int count(int what) {
        return switch (what) {
            case 0 -> all().size();
            case 1 -> alike;
            case 2 -> unlike;
            case 3 -> gone.size();
            case 4 -> late;
            case 5 -> pairs().size();
            case 6 -> agree() ? 1 : 0;
            case 7 -> keptOnes.size();
            case 8 -> missed;
            case 9 -> closed;
            case 10 -> tried.size();
            default -> NONE;
        };
    }

    @Override
    public String toString() {
        return traces + " d " + Arrays.toString(d);
    }
}
