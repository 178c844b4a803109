import java.util.Arrays;

/** Collects spans of traces, reckons the differences of the clocks that told them, and keeps traces. */
public final class TracePost {
    public static final int NONE = -1, BAD = -2, STATE = -3, FULL = -4;
    public static final long NO = Long.MIN_VALUE;

    private static final int SERVICES = 6, ACTS = 8, TRACES = 20;
    private static final int LAST_NUMBER = 999;
    private static final long LAST_TIME = 1_000_000_000L;
    private static final int MOST_IN_TRACE = 30, MOST_SPANS = 200;
    /** Each span is walked at most once, and each one below the root splits at most one part in two. */
    private static final int MOST_PARTS = 2 * MOST_IN_TRACE;
    private static final int ASK = 1, SERVE = 2, POST = 3, TAKE = 4;
    private static final int FAILED_FLAG = 8;
    private static final int LAST_STEP = 30;
    private static final int OPEN = 0, KEPT = 1, LEFT = 2;
    private static final int BY_SLOW = 1, BY_FAILED = 2, BY_QUOTA = 3;
    private static final int MOST_QUOTA = 20;
    private static final long MOST_TRIED = 10_000_000_000L;

    private final Trace[] traces = new Trace[TRACES];
    private final Totals totals = new Totals();
    private final Clocks clocks = new Clocks();
    /** What way() told; close() and share() walk in the other one, so that part() still answers as it was. */
    private final Way toldWay = new Way();
    private final Way ownWay = new Way();
    private final int[] slowTicks = new int[ACTS];
    private final int[] keptRow = new int[TRACES];
    private int keptSize;
    private int quotaNow = 1;
    private int there;
    private int alike;
    private int unlike;
    private int dropped;
    private int late;
    private int missed;
    private int closed;

    public TracePost() {
        for (int i = 0; i < TRACES; i++) {
            traces[i] = new Trace();
        }
    }

    public int report(int trace, int number, int parent, int service, int act, int kind, long begin, long end) {
        Trace t = traceAt(trace);
        if (t == null || number < 1 || number > LAST_NUMBER || parent < 0 || parent > LAST_NUMBER) {
            return BAD;
        }
        if (!isService(service) || !isAct(act) || !isKind(kind) || !areTimes(begin, end)) {
            return BAD;
        }
        if (t.state != OPEN) {
            late++;
            return STATE;
        }
        Span old = t.find(number);
        if (old == null && (t.size >= MOST_IN_TRACE || there >= MOST_SPANS)) {
            return FULL;
        }
        Span told = new Span(number, parent, service, act, kind, begin, end);
        return old == null ? takeNew(t, told) : takeAgain(t, old, told);
    }

    public int spans(int trace) {
        Trace t = traceAt(trace);
        return t == null ? NONE : t.size;
    }

    public int span(int trace, int number, int what) {
        Trace t = traceAt(trace);
        Span s = spanAt(t, number);
        if (t == null || s == null) {
            return NONE;
        }
        switch (what) {
            case 0: return s.parent;
            case 1: return s.service;
            case 2: return s.act;
            case 3: return s.kind;
            case 4: return s.failed;
            case 5: return s.hasHole() ? 1 : 0;
            case 6: return s.top == null ? BAD : s.depth;
            case 7: return s.top == null ? BAD : s.top.number;
            case 8: return t.kidsOf(number);
            default: return NONE;
        }
    }

    public int kid(int trace, int number, int i) {
        Trace t = traceAt(trace);
        if (t == null || spanAt(t, number) == null) {
            return NONE;
        }
        return numberOf(t.kidAt(number, i));
    }

    public int root(int trace, int i) {
        Trace t = traceAt(trace);
        return t == null ? NONE : numberOf(t.rootAt(i));
    }

    public int trace(int trace, int what) {
        Trace t = traceAt(trace);
        if (t == null) {
            return NONE;
        }
        switch (what) {
            case 0: return t.roots();
            case 1: return t.holes();
            case 2: return t.lost();
            case 3: return t.pairs();
            case 4: return t.state;
            default: return NONE;
        }
    }

    public long time(int trace, int number, boolean end, boolean moved) {
        Span s = spanAt(traceAt(trace), number);
        if (s == null) {
            return NO;
        }
        long told = end ? s.end : s.begin;
        return moved ? told + clocks.added[s.service] : told;
    }

    public long bound(int x, int y) {
        if (!isService(x) || !isService(y)) {
            return NO;
        }
        learnPairs();
        return clocks.bounds[x * SERVICES + y];
    }

    public long skew(int x, int y, int what) {
        if (!isService(x) || !isService(y) || x == y || what < 0 || what > 1) {
            return NO;
        }
        learnPairs();
        if (!clocks.agree) {
            return NO;
        }
        return what == 1 ? clocks.far[x * SERVICES + y] : negated(clocks.far[y * SERVICES + x]);
    }

    public int ring(int i) {
        learnPairs();
        return i < 0 || i >= clocks.ringSize ? NONE : clocks.ringRow[i];
    }

    public int put() {
        learnPairs();
        return clocks.agree ? clocks.setAll() : STATE;
    }

    public long moved(int service) {
        return isService(service) ? clocks.added[service] : NO;
    }

    public int attempt(int service, long v) {
        if (!isService(service)) {
            return NONE;
        }
        if (v < -MOST_TRIED || v > MOST_TRIED) {
            return BAD;
        }
        clocks.tryOne(service, v);
        return clocks.triedSize;
    }

    public int check() {
        learnPairs();
        int broken = clocks.firstBroken();
        clocks.tryNone();
        return broken;
    }

    public int way(int trace, int i) {
        Trace t = traceAt(trace);
        Span top = t == null ? null : t.rootAt(i);
        if (t == null || top == null) {
            return NONE;
        }
        toldWay.follow(t, top, clocks.added);
        return toldWay.size;
    }

    public long part(int i, int what) {
        if (i < 0 || i >= toldWay.size) {
            return NO;
        }
        int row = toldWay.size - 1 - i;
        switch (what) {
            case 0: return toldWay.numbers[row];
            case 1: return toldWay.lows[row];
            case 2: return toldWay.highs[row];
            default: return NO;
        }
    }

    public long share(int trace, int number) {
        Trace t = traceAt(trace);
        Span s = spanAt(t, number);
        if (t == null || s == null || s.top == null) {
            return NO;
        }
        ownWay.follow(t, s.top, clocks.added);
        return ownWay.lengthOf(number);
    }

    public int slow(int act, int ticks) {
        if (!isAct(act)) {
            return NONE;
        }
        if (ticks < 0 || ticks > LAST_TIME) {
            return BAD;
        }
        int before = slowTicks[act];
        slowTicks[act] = ticks;
        return before;
    }

    public int quota(int n) {
        if (n < 0 || n > MOST_QUOTA) {
            return BAD;
        }
        int before = quotaNow;
        quotaNow = n;
        return before;
    }

    public int close(int trace) {
        Trace t = traceAt(trace);
        if (t == null) {
            return NONE;
        }
        Span top = t.rootAt(0);
        if (t.state != OPEN || top == null) {
            return STATE;
        }
        ownWay.follow(t, top, clocks.added);
        t.takePath(ownWay);
        int by = reasonToKeep(t, top);
        closed++;
        if (by == 0) {
            leaveOut(t);
        } else {
            keepTrace(trace, t, by);
        }
        return by;
    }

    public int kept(int i) {
        return i < 0 || i >= keptSize ? NONE : keptRow[i];
    }

    public int stands(int trace) {
        Trace t = traceAt(trace);
        return t == null || t.state != KEPT ? NONE : t.standsFor;
    }

    public int drop(int trace) {
        Trace t = traceAt(trace);
        if (t == null) {
            return NONE;
        }
        int gone = t.size;
        t.removeAll();
        there -= gone;
        dropped += gone;
        clocks.known = false;
        return gone;
    }

    public int total(int service, int act, int step) {
        if (!isService(service) || !isAct(act)) {
            return NONE;
        }
        if (step == -1) {
            return totals.all[placeOf(service, act)];
        }
        if (step == -2) {
            return totals.failed[placeOf(service, act)];
        }
        return step < 0 || step > LAST_STEP ? NONE : totals.inStep(placeOf(service, act), step);
    }

    public int percent(int service, int act, int p) {
        if (!isService(service) || !isAct(act) || totals.all[placeOf(service, act)] == 0) {
            return NONE;
        }
        return p < 1 || p > 100 ? BAD : totals.stepOfPercent(placeOf(service, act), p);
    }

    public int flow(int x, int y, int what) {
        if (!isService(x) || !isService(y) || what < 0 || what > 2) {
            return NONE;
        }
        int sum = 0;
        for (int i = 0; i < TRACES; i++) {
            sum += traces[i].asks(x, y, what);
        }
        return sum;
    }

    public int count(int what) {
        switch (what) {
            case 0: return there;
            case 1: return alike;
            case 2: return unlike;
            case 3: return dropped;
            case 4: return late;
            case 5: return allPairs();
            case 6: return allAgree() ? 1 : 0;
            case 7: return keptSize;
            case 8: return missed;
            case 9: return closed;
            case 10: return clocks.triedSize;
            default: return NONE;
        }
    }

    private static boolean isService(int service) {
        return service >= 0 && service < SERVICES;
    }

    private static boolean isAct(int act) {
        return act >= 0 && act < ACTS;
    }

    private static boolean isKind(int kind) {
        return kind >= 0 && kind <= FAILED_FLAG + TAKE && kind % FAILED_FLAG <= TAKE;
    }

    private static boolean areTimes(long begin, long end) {
        return begin >= 0 && begin <= end && end <= LAST_TIME;
    }

    private static int placeOf(int service, int act) {
        return service * ACTS + act;
    }

    private static int numberOf(Span s) {
        return s == null ? NONE : s.number;
    }

    private static long negated(long far) {
        return far == NO ? NO : -far;
    }

    private Trace traceAt(int trace) {
        return trace < 0 || trace >= TRACES ? null : traces[trace];
    }

    /** The span, settled in its tree. */
    private static Span spanAt(Trace t, int number) {
        if (t == null) {
            return null;
        }
        t.settle();
        return t.find(number);
    }

    private int takeNew(Trace t, Span told) {
        t.insert(told);
        totals.add(told, 1);
        there++;
        clocks.known = false;
        return 1;
    }

    private int takeAgain(Trace t, Span old, Span told) {
        int order = told.comparedWith(old);
        if (order == 0) {
            alike++;
            return 0;
        }
        unlike++;
        if (order > 0) {
            return 3;
        }
        t.remove(old);
        t.insert(told);
        totals.add(old, -1);
        totals.add(told, 1);
        clocks.known = false;
        return 2;
    }

    private void learnPairs() {
        if (clocks.known) {
            return;
        }
        clocks.forgetBounds();
        for (int i = 0; i < TRACES; i++) {
            traces[i].tellPairs(clocks);
        }
        clocks.reckon();
    }

    private int allPairs() {
        int sum = 0;
        for (int i = 0; i < TRACES; i++) {
            sum += traces[i].pairs();
        }
        return sum;
    }

    private boolean allAgree() {
        learnPairs();
        return clocks.agree;
    }

    private int reasonToKeep(Trace t, Span top) {
        int limit = slowTicks[top.act];
        if (limit > 0 && top.end - top.begin >= limit) {
            return BY_SLOW;
        }
        if (t.hasFailed()) {
            return BY_FAILED;
        }
        return keptByQuota(t) < quotaNow ? BY_QUOTA : 0;
    }

    private int keptByQuota(Trace t) {
        int sum = 0;
        for (int i = 0; i < TRACES; i++) {
            if (traces[i].keptBy == BY_QUOTA && traces[i].hasPathOf(t)) {
                sum++;
            }
        }
        return sum;
    }

    private void keepTrace(int trace, Trace t, int by) {
        t.state = KEPT;
        t.keptBy = by;
        t.standsFor = 1;
        if (keptSize < TRACES) {
            keptRow[keptSize] = trace;
            keptSize++;
        }
    }

    private void leaveOut(Trace t) {
        t.state = LEFT;
        for (int i = keptSize - 1; i >= 0; i--) {
            Trace other = traceAt(keptRow[i]);
            if (other != null && other.hasPathOf(t)) {
                other.standsFor++;
                return;
            }
        }
        missed++;
    }

    /** One span as it was told, with its place in the tree of its trace. */
    private static final class Span {
        final int number;
        final int parent;
        final int service;
        final int act;
        final int kind;
        final int failed;
        final long begin;
        final long end;
        /** The one behind it in the trace's order. */
        Span next;
        /** The parent that is there, or null. */
        Span up;
        /** The root, or null: it is lost. */
        Span top;
        int depth;

        Span(int number, int parent, int service, int act, int flaggedKind, long begin, long end) {
            this.number = number;
            this.parent = parent;
            this.service = service;
            this.act = act;
            this.kind = flaggedKind % FAILED_FLAG;
            this.failed = flaggedKind / FAILED_FLAG;
            this.begin = begin;
            this.end = end;
        }

        int comparedWith(Span other) {
            int order = Integer.compare(parent, other.parent);
            order = order != 0 ? order : Integer.compare(service, other.service);
            order = order != 0 ? order : Integer.compare(act, other.act);
            order = order != 0 ? order : Integer.compare(kind, other.kind);
            order = order != 0 ? order : Integer.compare(failed, other.failed);
            order = order != 0 ? order : Long.compare(begin, other.begin);
            return order != 0 ? order : Long.compare(end, other.end);
        }

        boolean comesAhead(Span other) {
            return begin != other.begin ? begin < other.begin : number < other.number;
        }

        boolean hasHole() {
            return parent != 0 && up == null;
        }

        boolean isKidOf(int parentNumber) {
            return top != null && up != null && parent == parentNumber;
        }

        boolean isRoot() {
            return up == null;
        }

        boolean isPair() {
            if (up == null || up.service == service) {
                return false;
            }
            return (up.kind == ASK && kind == SERVE) || (up.kind == POST && kind == TAKE);
        }

        /** A post is not waited for, so what takes it cannot make its poster slow. */
        boolean canBeOnWay() {
            return kind <= SERVE && begin < end;
        }
    }

    /** The spans of one trace, in the order of begin and number, and what became of it. */
    private static final class Trace {
        Span first;
        int size;
        boolean settled = true;
        int state = OPEN;
        int keptBy;
        int standsFor;
        final int[] path = new int[MOST_PARTS];
        int pathSize;

        Span find(int number) {
            for (Span s = first; s != null; s = s.next) {
                if (s.number == number) {
                    return s;
                }
            }
            return null;
        }

        void insert(Span told) {
            Span ahead = null;
            Span behind = first;
            while (behind != null && behind.comesAhead(told)) {
                ahead = behind;
                behind = behind.next;
            }
            told.next = behind;
            linkBehind(ahead, told);
            size++;
            settled = false;
        }

        void remove(Span old) {
            Span ahead = null;
            for (Span s = first; s != null; s = s.next) {
                if (s == old) {
                    linkBehind(ahead, old.next);
                    size--;
                    settled = false;
                    return;
                }
                ahead = s;
            }
        }

        private void linkBehind(Span ahead, Span s) {
            if (ahead == null) {
                first = s;
            } else {
                ahead.next = s;
            }
        }

        void removeAll() {
            first = null;
            size = 0;
            settled = true;
        }

        /** Finds each span's place in the tree, if spans came since it was done last. */
        void settle() {
            if (settled) {
                return;
            }
            for (Span s = first; s != null; s = s.next) {
                s.up = find(s.parent);
            }
            for (Span s = first; s != null; s = s.next) {
                climb(s);
            }
            settled = true;
        }

        /** More steps than spans: it goes round. */
        private static void climb(Span s) {
            Span high = s;
            int steps = 0;
            while (high.up != null && steps < MOST_IN_TRACE) {
                high = high.up;
                steps++;
            }
            s.top = high.up == null ? high : null;
            s.depth = steps;
        }

        int kidsOf(int number) {
            settle();
            int sum = 0;
            for (Span s = first; s != null; s = s.next) {
                sum += s.isKidOf(number) ? 1 : 0;
            }
            return sum;
        }

        Span kidAt(int number, int i) {
            settle();
            int left = i;
            for (Span s = first; s != null; s = s.next) {
                if (s.isKidOf(number)) {
                    if (left == 0) {
                        return s;
                    }
                    left--;
                }
            }
            return null;
        }

        int roots() {
            settle();
            int sum = 0;
            for (Span s = first; s != null; s = s.next) {
                sum += s.isRoot() ? 1 : 0;
            }
            return sum;
        }

        Span rootAt(int i) {
            settle();
            int left = i;
            for (Span s = first; s != null; s = s.next) {
                if (s.isRoot()) {
                    if (left == 0) {
                        return s;
                    }
                    left--;
                }
            }
            return null;
        }

        int holes() {
            settle();
            int sum = 0;
            for (Span s = first; s != null; s = s.next) {
                sum += s.hasHole() && isFirstOfParent(s) ? 1 : 0;
            }
            return sum;
        }

        /** Several spans may miss the same parent: that is one hole. */
        private boolean isFirstOfParent(Span told) {
            for (Span s = first; s != null && s != told; s = s.next) {
                if (s.parent == told.parent) {
                    return false;
                }
            }
            return true;
        }

        int lost() {
            settle();
            int sum = 0;
            for (Span s = first; s != null; s = s.next) {
                sum += s.top == null ? 1 : 0;
            }
            return sum;
        }

        int pairs() {
            settle();
            int sum = 0;
            for (Span s = first; s != null; s = s.next) {
                sum += s.isPair() ? 1 : 0;
            }
            return sum;
        }

        void tellPairs(Clocks clocks) {
            settle();
            for (Span s = first; s != null; s = s.next) {
                if (s.isPair()) {
                    clocks.learn(s.up, s);
                }
            }
        }

        boolean hasFailed() {
            for (Span s = first; s != null; s = s.next) {
                if (s.failed == 1) {
                    return true;
                }
            }
            return false;
        }

        int asks(int x, int y, int what) {
            int sum = 0;
            for (Span s = first; s != null; s = s.next) {
                if (s.kind == ASK && s.service == x && isCounted(s, y, what)) {
                    sum++;
                }
            }
            return sum;
        }

        private boolean isCounted(Span ask, int y, int what) {
            boolean any = false;
            boolean ofY = false;
            boolean failed = ask.failed == 1;
            for (Span s = first; s != null; s = s.next) {
                if (s.kind == SERVE && s.parent == ask.number) {
                    any = true;
                    ofY = ofY || s.service == y;
                    failed = failed || (s.service == y && s.failed == 1);
                }
            }
            return what == 2 ? !any : ofY && (what == 0 || failed);
        }

        void takePath(Way way) {
            pathSize = 0;
            for (int row = way.size - 1; row >= 0; row--) {
                int place = way.places[row];
                if (pathSize < MOST_PARTS && (pathSize == 0 || path[pathSize - 1] != place)) {
                    path[pathSize] = place;
                    pathSize++;
                }
            }
        }

        boolean hasPathOf(Trace other) {
            if (pathSize != other.pathSize) {
                return false;
            }
            for (int i = 0; i < pathSize; i++) {
                if (path[i] != other.path[i]) {
                    return false;
                }
            }
            return true;
        }
    }

    /** How many spans there are or were, by place (service and act) and by the step of their length. */
    private static final class Totals {
        private static final int STEPS = LAST_STEP + 1;
        final int[] all = new int[SERVICES * ACTS];
        final int[] failed = new int[SERVICES * ACTS];
        private final int[] steps = new int[SERVICES * ACTS * STEPS];

        void add(Span s, int n) {
            int place = placeOf(s.service, s.act);
            all[place] += n;
            failed[place] += s.failed * n;
            steps[place * STEPS + stepOf(s.end - s.begin)] += n;
        }

        int inStep(int place, int step) {
            return steps[place * STEPS + step];
        }

        int stepOfPercent(int place, int p) {
            int sum = 0;
            for (int step = 0; step < LAST_STEP; step++) {
                sum += inStep(place, step);
                if (sum * 100 >= p * all[place]) {
                    return step;
                }
            }
            return LAST_STEP;
        }

        private static int stepOf(long length) {
            int step = 0;
            while (step < LAST_STEP && length >> step != 0) {
                step++;
            }
            return step;
        }
    }

    /** What pairs tell of the clocks' differences, what is added to each clock, and what is tried. */
    private static final class Clocks {
        /** Rows of x * SERVICES + y; NO where there is none. */
        final long[] bounds = new long[SERVICES * SERVICES];
        final long[] far = new long[SERVICES * SERVICES];
        final long[] added = new long[SERVICES];
        final int[] ringRow = new int[SERVICES];
        int ringSize;
        boolean agree = true;
        /** Whether bounds, far, agree and the ring are of the spans that are there now. */
        boolean known;
        int triedSize;
        private final long[] tried = new long[SERVICES];
        private final boolean[] isTried = new boolean[SERVICES];

        void forgetBounds() {
            Arrays.fill(bounds, NO);
        }

        void learn(Span caller, Span called) {
            int x = caller.service;
            int y = called.service;
            if (called.kind == SERVE) {
                lower(bounds, x * SERVICES + y, called.begin - caller.begin);
                lower(bounds, y * SERVICES + x, caller.end - called.end);
            } else {
                lower(bounds, x * SERVICES + y, called.begin - caller.end);
            }
        }

        private static void lower(long[] rows, int row, long n) {
            if (rows[row] == NO || n < rows[row]) {
                rows[row] = n;
            }
        }

        /** The least sums over all ways; one from a service round to itself below 0 shows that they do not agree. */
        void reckon() {
            System.arraycopy(bounds, 0, far, 0, SERVICES * SERVICES);
            for (int by = 0; by < SERVICES; by++) {
                for (int x = 0; x < SERVICES; x++) {
                    lowerBy(by, x);
                }
            }
            agree = true;
            for (int x = 0; x < SERVICES; x++) {
                long round = far[x * SERVICES + x];
                agree = agree && (round == NO || round >= 0);
            }
            ringSize = agree ? 0 : findRing();
            known = true;
        }

        private void lowerBy(int by, int x) {
            for (int y = 0; y < SERVICES; y++) {
                long there = far[x * SERVICES + by];
                long on = far[by * SERVICES + y];
                if (there != NO && on != NO) {
                    lower(far, x * SERVICES + y, there + on);
                }
            }
        }

        /** Puts the ring into ringRow: its size, 0 if there is none. */
        private int findRing() {
            for (int size = 2; size <= SERVICES; size++) {
                if (fillRing(this, 0, size, 0)) {
                    return size;
                }
            }
            return 0;
        }

        /** Rising services at each place, so that the first ring found is the least. */
        private static boolean fillRing(Clocks c, int at, int size, long sum) {
            if (at >= SERVICES) {
                return false;
            }
            for (int x = 0; x < SERVICES; x++) {
                long step = at == 0 ? 0 : c.bounds[c.ringRow[at - 1] * SERVICES + x];
                if (step != NO && !c.isInRing(x, at)) {
                    c.ringRow[at] = x;
                    boolean last = at == size - 1;
                    if (last ? c.closesRing(x, sum + step) : fillRing(c, at + 1, size, sum + step)) {
                        return true;
                    }
                }
            }
            return false;
        }

        private boolean isInRing(int x, int size) {
            for (int i = 0; i < size; i++) {
                if (ringRow[i] == x) {
                    return true;
                }
            }
            return false;
        }

        private boolean closesRing(int last, long sum) {
            long step = bounds[last * SERVICES + ringRow[0]];
            return step != NO && sum + step < 0;
        }

        /** Sets what is added to each clock: how many are other than before. */
        int setAll() {
            int changed = 0;
            for (int x = 0; x < SERVICES; x++) {
                long nearest = nearestTo0(x);
                changed += nearest != added[x] ? 1 : 0;
                added[x] = nearest;
            }
            return changed;
        }

        private long nearestTo0(int x) {
            long least = NO;
            long greatest = Long.MAX_VALUE;
            for (int y = 0; y < x; y++) {
                long up = far[x * SERVICES + y];
                long down = far[y * SERVICES + x];
                greatest = up == NO ? greatest : Math.min(greatest, added[y] + up);
                least = down == NO ? least : Math.max(least, added[y] - down);
            }
            return Math.max(least, Math.min(greatest, 0));
        }

        void tryOne(int service, long v) {
            triedSize += isTried[service] ? 0 : 1;
            isTried[service] = true;
            tried[service] = v;
        }

        void tryNone() {
            triedSize = 0;
            Arrays.fill(tried, 0);
            for (int x = 0; x < SERVICES; x++) {
                isTried[x] = false;
            }
        }

        /** The first row of the bounds that does not hold by what is tried, or NONE. */
        int firstBroken() {
            for (int row = 0; row < SERVICES * SERVICES; row++) {
                long difference = tried[row / SERVICES] - tried[row % SERVICES];
                if (bounds[row] != NO && difference > bounds[row]) {
                    return row;
                }
            }
            return NONE;
        }
    }

    /** The parts of one root's way, from the latest down to the earliest. */
    private static final class Way {
        final int[] numbers = new int[MOST_PARTS];
        final int[] places = new int[MOST_PARTS];
        final long[] lows = new long[MOST_PARTS];
        final long[] highs = new long[MOST_PARTS];
        int size;
        private final long[] moves = new long[SERVICES];

        void follow(Trace t, Span top, long[] added) {
            System.arraycopy(added, 0, moves, 0, SERVICES);
            size = 0;
            walk(this, t, top, movedEnd(top), movedBegin(top), 1);
        }

        private static void walk(Way w, Trace t, Span x, long from, long downTo, int depth) {
            if (depth > MOST_IN_TRACE) {
                return;
            }
            long high = from;
            for (int turn = 0; turn <= MOST_IN_TRACE && high > downTo; turn++) {
                Span kid = w.latestKid(t, x, high, downTo);
                if (kid == null) {
                    w.add(x, downTo, high);
                    return;
                }
                long kidEnd = w.movedEnd(kid);
                if (kidEnd < high) {
                    w.add(x, kidEnd, high);
                }
                high = Math.max(downTo, w.movedBegin(kid));
                walk(w, t, kid, kidEnd, high, depth + 1);
            }
        }

        private Span latestKid(Trace t, Span x, long high, long low) {
            Span best = null;
            for (Span s = t.first; s != null; s = s.next) {
                if (s.isKidOf(x.number) && s.canBeOnWay() && movedEnd(s) <= high && movedEnd(s) > low) {
                    best = best == null || isLater(s, best) ? s : best;
                }
            }
            return best;
        }

        private boolean isLater(Span s, Span best) {
            long difference = movedEnd(s) - movedEnd(best);
            return difference > 0 || (difference == 0 && s.number < best.number);
        }

        private long movedBegin(Span s) {
            return s.begin + moves[s.service];
        }

        private long movedEnd(Span s) {
            return s.end + moves[s.service];
        }

        private void add(Span x, long low, long high) {
            if (size < MOST_PARTS) {
                numbers[size] = x.number;
                places[size] = placeOf(x.service, x.act);
                lows[size] = low;
                highs[size] = high;
                size++;
            }
        }

        long lengthOf(int number) {
            long sum = 0;
            for (int i = 0; i < size; i++) {
                sum += numbers[i] == number ? highs[i] - lows[i] : 0;
            }
            return sum;
        }
    }
}
