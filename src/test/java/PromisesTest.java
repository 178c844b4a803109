/** Each promise of the document by itself: ordinary inputs, the edges that it names, wrong inputs. */
public final class PromisesTest {
    private static final long NO = TracePost.NO;
    private static final int NONE = TracePost.NONE, BAD = TracePost.BAD, STATE = TracePost.STATE, FULL = TracePost.FULL;
    private static final int SPAN = 0, ASK = 1, SERVE = 2, POST = 3, TAKE = 4, FAILED = 8;
    private static final int MIN = Integer.MIN_VALUE, MAX = Integer.MAX_VALUE;
    private static final long LAST = 1000000000L;

    private static final Due due = new Due("promises");
    private static int promise;

    private static void is(String what, long got, long want) {
        due.is("promise " + promise + ", " + what, got, want);
    }

    public static void main(String[] args) {
        promise = 1;
        aNewObject();
        promise = 2;
        report();
        reportOfTheLess();
        reportFull();
        reportToClosed();
        promise = 3;
        spans();
        promise = 4;
        span();
        promise = 5;
        kid();
        promise = 6;
        root();
        promise = 7;
        trace();
        promise = 8;
        time();
        promise = 9;
        bound();
        promise = 10;
        skew();
        promise = 11;
        ring();
        ringOrder();
        promise = 12;
        put();
        putAhead();
        promise = 13;
        moved();
        promise = 14;
        attempt();
        promise = 15;
        check();
        promise = 16;
        way();
        wayEdges();
        wayMoved();
        wayOfLaterEnds();
        wayOfMostParts();
        promise = 17;
        part();
        promise = 18;
        share();
        promise = 19;
        slow();
        promise = 20;
        quota();
        promise = 21;
        close();
        closePath();
        promise = 22;
        kept();
        promise = 23;
        stands();
        promise = 24;
        drop();
        promise = 25;
        total();
        promise = 26;
        percent();
        promise = 27;
        flow();
        promise = 28;
        count();
        due.end();
    }

    private static void aNewObject() {
        TracePost x = new TracePost();
        for (int t = 0; t < 20; t++) {
            is("spans", x.spans(t), 0);
            is("open", x.trace(t, 4), 0);
            is("stands", x.stands(t), NONE);
        }
        for (int c = 0; c <= 10; c++) {
            is("count " + c, x.count(c), c == 6 ? 1 : 0);
        }
        for (int s = 0; s < 6; s++) {
            is("d", x.moved(s), 0);
        }
        for (int a = 0; a < 8; a++) {
            is("slow", x.slow(a, 0), 0);
        }
        is("quota", x.quota(1), 1);
        is("parts", x.part(0, 0), NO);
        is("NO", NO, Long.MIN_VALUE);
        is("NONE", NONE, -1);
        is("BAD", BAD, -2);
        is("STATE", STATE, -3);
        is("FULL", FULL, -4);
        x.report(0, 1, 0, 0, 0, SPAN, 0, 1);
        is("another object has nothing of it", new TracePost().count(0), 0);
    }

    private static void report() {
        TracePost x = new TracePost();
        is("least of all", x.report(0, 1, 0, 0, 0, 0, 0, 0), 1);
        is("greatest of all", x.report(19, 999, 999, 5, 7, TAKE + FAILED, LAST, LAST), 1);
        is("alike", x.report(19, 999, 999, 5, 7, TAKE + FAILED, LAST, LAST), 0);
        is("the same number in another trace", x.report(1, 1, 0, 0, 0, 0, 0, 0), 1);
        is("count", x.count(0), 3);
        int[] offTrace = {-1, 20, MIN, MAX}, offNumber = {0, -1, 1000, MIN, MAX}, offParent = {-1, 1000, MIN, MAX};
        int[] offService = {-1, 6, MIN, MAX}, offAct = {-1, 8, MIN, MAX};
        int[] offKind = {-1, 5, 6, 7, 13, 14, 15, 16, -8, MIN, MAX};
        for (int v : offTrace) {
            is("trace " + v, x.report(v, 2, 0, 0, 0, 0, 0, 0), BAD);
        }
        for (int v : offNumber) {
            is("number " + v, x.report(0, v, 0, 0, 0, 0, 0, 0), BAD);
        }
        for (int v : offParent) {
            is("parent " + v, x.report(0, 2, v, 0, 0, 0, 0, 0), BAD);
        }
        for (int v : offService) {
            is("service " + v, x.report(0, 2, 0, v, 0, 0, 0, 0), BAD);
        }
        for (int v : offAct) {
            is("act " + v, x.report(0, 2, 0, 0, v, 0, 0, 0), BAD);
        }
        for (int v : offKind) {
            is("kind " + v, x.report(0, 2, 0, 0, 0, v, 0, 0), BAD);
        }
        long[][] offTimes = {{-1, 0}, {-2, -1}, {1, 0}, {0, LAST + 1}, {LAST + 1, LAST + 1}, {Long.MIN_VALUE, 0},
            {0, Long.MAX_VALUE}, {Long.MAX_VALUE, Long.MAX_VALUE}, {Long.MIN_VALUE, Long.MAX_VALUE}, {4294967296L, 4294967297L}};
        for (long[] v : offTimes) {
            is("times " + v[0] + " " + v[1], x.report(0, 2, 0, 0, 0, 0, v[0], v[1]), BAD);
        }
        is("bad ones change nothing", x.count(0), 3);
        for (int kind = 0; kind < 5; kind++) {
            is("kind " + kind, x.report(2, 1 + kind, 0, 0, 0, kind, 0, LAST), 1);
            is("failed kind " + kind, x.report(2, 11 + kind, 0, 0, 0, kind + FAILED, 0, LAST), 1);
            is("kind told", x.span(2, 11 + kind, 3), kind);
            is("failed told", x.span(2, 11 + kind, 4), 1);
        }
    }

    /** Each row is less than the one below it, by the next of the things that are compared. */
    private static void reportOfTheLess() {
        long[][] rising = {
            {1, 5, 7, TAKE + FAILED, 900, 901}, {2, 0, 7, TAKE + FAILED, 900, 901}, {2, 1, 0, TAKE + FAILED, 900, 901},
            {2, 1, 1, ASK + FAILED, 900, 901}, {2, 1, 1, SERVE, 900, 901}, {2, 1, 1, SERVE + FAILED, 5, 901},
            {2, 1, 1, SERVE + FAILED, 6, 10}, {2, 1, 1, SERVE + FAILED, 6, 11}};
        for (int i = 0; i < rising.length; i++) {
            for (int j = 0; j < rising.length; j++) {
                TracePost x = new TracePost();
                tell(x, rising[i]);
                is("row " + i + " then row " + j, tell(x, rising[j]), i == j ? 0 : i < j ? 3 : 2);
                long[] stays = rising[Math.min(i, j)];
                is("parent that stays", x.span(0, 7, 0), stays[0]);
                is("service that stays", x.span(0, 7, 1), stays[1]);
                is("act that stays", x.span(0, 7, 2), stays[2]);
                is("kind that stays", x.span(0, 7, 3) + 8 * x.span(0, 7, 4), stays[3]);
                is("begin that stays", x.time(0, 7, false, false), stays[4]);
                is("end that stays", x.time(0, 7, true, false), stays[5]);
                is("spans", x.spans(0), 1);
            }
        }
    }

    private static int tell(TracePost x, long[] r) {
        return x.report(0, 7, (int) r[0], (int) r[1], (int) r[2], (int) r[3], r[4], r[5]);
    }

    private static void reportFull() {
        TracePost x = new TracePost();
        for (int n = 1; n <= 30; n++) {
            is("span " + n, x.report(0, n, 0, 0, 0, 0, 1, 2), 1);
        }
        is("one more", x.report(0, 31, 0, 0, 0, 0, 1, 2), FULL);
        is("bad is ahead of full", x.report(0, 31, 0, 0, 0, 5, 1, 2), BAD);
        is("alike", x.report(0, 30, 0, 0, 0, 0, 1, 2), 0);
        is("in place", x.report(0, 30, 0, 0, 0, 0, 0, 2), 2);
        is("stays", x.report(0, 30, 0, 0, 0, 0, 1, 2), 3);
        for (int t = 1; t < 6; t++) {
            for (int n = 1; n <= 30; n++) {
                x.report(t, n, 0, 0, 0, 0, 1, 2);
            }
        }
        for (int n = 1; n <= 20; n++) {
            is("of the last twenty", x.report(6, n, 0, 0, 0, 0, 1, 2), 1);
        }
        is("one more than 200", x.report(6, 21, 0, 0, 0, 0, 1, 2), FULL);
        is("in an empty trace too", x.report(7, 1, 0, 0, 0, 0, 1, 2), FULL);
        is("alike among 200", x.report(6, 20, 0, 0, 0, 0, 1, 2), 0);
        is("in place among 200", x.report(6, 20, 0, 0, 0, 0, 0, 2), 2);
        is("spans", x.count(0), 200);
        x.close(6);
        is("state is ahead of full", x.report(6, 21, 0, 0, 0, 0, 1, 2), STATE);
        x.drop(0);
        is("room again", x.report(7, 1, 0, 0, 0, 0, 1, 2), 1);
    }

    private static void reportToClosed() {
        TracePost x = new TracePost();
        x.report(3, 1, 0, 0, 0, 0, 1, 2);
        x.close(3);
        is("new", x.report(3, 2, 0, 0, 0, 0, 1, 2), STATE);
        is("alike", x.report(3, 1, 0, 0, 0, 0, 1, 2), STATE);
        is("less", x.report(3, 1, 0, 0, 0, 0, 0, 2), STATE);
        is("bad is ahead", x.report(3, 1, 0, 0, 0, 0, 3, 2), BAD);
        is("late ones", x.count(4), 3);
        is("alike ones", x.count(1), 0);
        is("unlike ones", x.count(2), 0);
        is("begin", x.time(3, 1, false, false), 1);
        x.drop(3);
        is("dropped and closed", x.report(3, 2, 0, 0, 0, 0, 1, 2), STATE);
        is("late ones", x.count(4), 4);
    }

    private static void spans() {
        TracePost x = tree();
        is("spans", x.spans(2), 9);
        is("others", x.spans(3), 0);
        is("the last", x.spans(19), 0);
        for (int v : new int[] {-1, 20, MIN, MAX}) {
            is("trace " + v, x.spans(v), NONE);
        }
    }

    /** 1 over 5, 3, 4 (over 6), a hole 500 over 7 and 8, 9 and 10 going round. */
    private static TracePost tree() {
        TracePost x = new TracePost();
        x.report(2, 9, 10, 0, 0, SPAN, 5, 6);
        x.report(2, 6, 4, 1, 2, TAKE + FAILED, 12, 50);
        x.report(2, 4, 1, 2, 3, POST, 11, 60);
        x.report(2, 3, 1, 0, 0, SPAN, 20, 30);
        x.report(2, 5, 1, 0, 0, SPAN, 11, 30);
        x.report(2, 1, 0, 0, 0, SPAN, 10, 100);
        x.report(2, 10, 9, 0, 0, SPAN, 5, 6);
        x.report(2, 8, 500, 0, 0, SPAN, 3, 9);
        x.report(2, 7, 500, 0, 0, SPAN, 3, 4);
        return x;
    }

    private static void span() {
        TracePost x = tree();
        int[][] want = {{6, 4, 1, 2, TAKE, 1, 0, 2, 1, 0}, {4, 1, 2, 3, POST, 0, 0, 1, 1, 1}, {1, 0, 0, 0, SPAN, 0, 0, 0, 1, 3},
            {7, 500, 0, 0, SPAN, 0, 1, 0, 7, 0}, {9, 10, 0, 0, SPAN, 0, 0, BAD, BAD, 0}};
        for (int[] row : want) {
            for (int what = 0; what < 9; what++) {
                is("span " + row[0] + " what " + what, x.span(2, row[0], what), row[what + 1]);
            }
        }
        for (int v : new int[] {-1, 9, MIN, MAX}) {
            is("what " + v, x.span(2, 1, v), NONE);
            is("what of a lost one " + v, x.span(2, 9, v), NONE);
        }
        for (int v : new int[] {-1, 0, 2, 500, 1000, MIN, MAX}) {
            is("number " + v, x.span(2, v, 0), NONE);
        }
        for (int v : new int[] {-1, 0, 3, 20, MIN, MAX}) {
            is("trace " + v, x.span(v, 1, 0), NONE);
        }
        x.report(2, 500, 0, 0, 0, SPAN, 90, 91);
        is("the hole is filled", x.span(2, 7, 5), 0);
        is("it has another root", x.span(2, 7, 7), 500);
        is("and is one deeper", x.span(2, 7, 6), 1);
        x.report(2, 9, 8, 0, 0, SPAN, 5, 6);
        is("lost ones found", x.span(2, 10, 6), 3);
        is("their root", x.span(2, 10, 7), 500);
        x.report(4, 5, 5, 0, 0, SPAN, 5, 6);
        is("its own parent", x.span(4, 5, 6), BAD);
        is("no kid of itself", x.span(4, 5, 8), 0);
        is("no hole above it", x.span(4, 5, 5), 0);
        x.report(4, 6, 5, 0, 0, SPAN, 5, 6);
        is("below one that goes round", x.span(4, 6, 7), BAD);
        is("that has no kids", x.span(4, 5, 8), 0);
        chain(x);
    }

    private static void chain(TracePost x) {
        for (int n = 1; n <= 30; n++) {
            x.report(5, n, n - 1, 0, 0, SPAN, 0, 100);
        }
        is("as deep as can be", x.span(5, 30, 6), 29);
        is("its root", x.span(5, 30, 7), 1);
        x.drop(5);
        for (int n = 1; n <= 30; n++) {
            x.report(5, n, n == 1 ? 30 : n - 1, 0, 0, SPAN, 0, 100);
        }
        is("the longest round", x.span(5, 30, 6), BAD);
        is("all lost", x.trace(5, 2), 30);
    }

    private static void kid() {
        TracePost x = tree();
        is("by begin, then number", x.kid(2, 1, 0), 4);
        is("by begin, then number", x.kid(2, 1, 1), 5);
        is("by begin, then number", x.kid(2, 1, 2), 3);
        is("no more", x.kid(2, 1, 3), NONE);
        is("kid of 4", x.kid(2, 4, 0), 6);
        is("a hole has none", x.kid(2, 500, 0), NONE);
        is("lost ones are none", x.kid(2, 9, 0), NONE);
        for (int v : new int[] {-1, MIN, MAX}) {
            is("kid " + v, x.kid(2, 1, v), NONE);
        }
        is("roots are not kids of 0", x.kid(2, 0, 0), NONE);
        is("trace -1", x.kid(-1, 1, 0), NONE);
        is("trace 20", x.kid(20, 1, 0), NONE);
        x.report(2, 3, 1, 0, 0, SPAN, 11, 30);
        is("told again", x.kid(2, 1, 0), 3);
        is("told again", x.kid(2, 1, 1), 4);
        TracePost y = new TracePost();
        y.report(0, 1, 0, 0, 0, ASK, 0, 100);
        y.report(0, 2, 1, 1, 0, SERVE, 1000, 1010);
        y.report(0, 3, 1, 0, 0, SPAN, 50, 60);
        y.put();
        is("moved ahead of 3", y.time(0, 2, false, true) < 100 ? 1 : 0, 1);
        is("but in order as told", y.kid(0, 1, 0), 3);
    }

    private static void root() {
        TracePost x = tree();
        is("by begin, then number", x.root(2, 0), 7);
        is("by begin, then number", x.root(2, 1), 8);
        is("by begin, then number", x.root(2, 2), 1);
        is("no more", x.root(2, 3), NONE);
        for (int v : new int[] {-1, MIN, MAX}) {
            is("root " + v, x.root(2, v), NONE);
        }
        is("empty", x.root(3, 0), NONE);
        is("trace -1", x.root(-1, 0), NONE);
        is("trace 20", x.root(20, 0), NONE);
    }

    private static void trace() {
        TracePost x = tree();
        int[] want = {3, 1, 2, 1, 0};
        for (int what = 0; what < 5; what++) {
            is("what " + what, x.trace(2, what), want[what]);
            is("empty, what " + what, x.trace(0, what), 0);
        }
        for (int v : new int[] {-1, 5, MIN, MAX}) {
            is("what " + v, x.trace(2, v), NONE);
        }
        for (int v : new int[] {-1, 20, MIN, MAX}) {
            is("trace " + v, x.trace(v, 0), NONE);
        }
        x.report(2, 20, 501, 0, 0, SPAN, 1, 2);
        is("another hole", x.trace(2, 1), 2);
        x.report(2, 21, 500, 0, 0, SPAN, 4, 5);
        x.report(2, 22, 501, 0, 0, SPAN, 0, 5);
        is("holes are counted once", x.trace(2, 1), 2);
        x.report(2, 23, 23, 0, 0, SPAN, 0, 5);
        is("lost at once", x.trace(2, 2), 3);
        x.report(2, 9, 10, 0, 0, ASK, 5, 6);
        is("greater, it does not stay", x.trace(2, 3), 1);
        x.report(3, 1, 2, 0, 0, ASK, 5, 6);
        x.report(3, 2, 1, 1, 0, SERVE, 5, 6);
        is("lost ones can be a pair", x.trace(3, 3), 1);
        is("they are lost", x.trace(3, 2), 2);
        pairs(x);
        x.quota(0);
        x.close(2);
        is("failed: kept", x.trace(2, 4), 1);
        x.report(6, 1, 0, 0, 0, SPAN, 1, 2);
        x.close(6);
        is("not kept", x.trace(6, 4), 2);
    }

    /** Which kinds of parent and kid are a pair, by one service and by two. */
    private static void pairs(TracePost x) {
        for (int over = 0; over < 5; over++) {
            for (int below = 0; below < 5; below++) {
                for (int service = 0; service < 2; service++) {
                    x.report(4, 1, 0, 0, 0, over, 5, 9);
                    x.report(4, 2, 1, service, 0, below + FAILED, 5, 9);
                    boolean pair = service == 1 && (over == ASK && below == SERVE || over == POST && below == TAKE);
                    is("kinds " + over + " " + below + " service " + service, x.trace(4, 3), pair ? 1 : 0);
                    x.drop(4);
                }
            }
        }
        x.report(5, 1, 0, 0, 0, ASK, 5, 9);
        for (int n = 2; n < 5; n++) {
            x.report(5, n, 1, n, 0, SERVE, 5, 9);
        }
        is("several serves of one ask", x.trace(5, 3), 3);
        x.report(7, 1, 0, 0, 0, ASK, 5, 9);
        is("no pair across traces", x.trace(7, 3), 0);
    }

    private static void time() {
        TracePost x = clocks();
        x.put();
        is("begin", x.time(0, 2, false, false), 1120);
        is("end", x.time(0, 2, true, false), 1180);
        is("moved begin", x.time(0, 2, false, true), 1120 + x.moved(1));
        is("moved end", x.time(0, 2, true, true), 1180 + x.moved(1));
        is("moved by nothing", x.time(0, 1, true, true), 200);
        for (int v : new int[] {-1, 0, 9, 1000, MIN, MAX}) {
            is("number " + v, x.time(0, v, false, false), NO);
        }
        for (int v : new int[] {-1, 2, 20, MIN, MAX}) {
            is("trace " + v, x.time(v, 1, true, true), NO);
        }
    }

    /** 0 asks 1, 1 asks 2, 0 posts to 3. */
    private static TracePost clocks() {
        TracePost x = new TracePost();
        x.report(0, 1, 0, 0, 0, ASK, 100, 200);
        x.report(0, 2, 1, 1, 0, SERVE, 1120, 1180);
        x.report(0, 3, 2, 1, 0, ASK, 1130, 1160);
        x.report(0, 4, 3, 2, 0, SERVE, 40, 60);
        x.report(0, 5, 1, 0, 0, POST, 150, 155);
        x.report(0, 6, 5, 3, 0, TAKE, 900, 950);
        return x;
    }

    private static void bound() {
        TracePost x = clocks();
        is("ask to serve", x.bound(0, 1), 1020);
        is("serve to ask", x.bound(1, 0), 200 - 1180);
        is("ask to serve", x.bound(1, 2), 40 - 1130);
        is("serve to ask", x.bound(2, 1), 1160 - 60);
        is("post to take", x.bound(0, 3), 900 - 155);
        is("take to post: none", x.bound(3, 0), NO);
        is("not by others", x.bound(0, 2), NO);
        is("itself", x.bound(0, 0), NO);
        for (int v : new int[] {-1, 6, MIN, MAX}) {
            is("x " + v, x.bound(v, 0), NO);
            is("y " + v, x.bound(0, v), NO);
        }
        x.report(1, 1, 0, 0, 0, ASK, 100, 200);
        x.report(1, 2, 1, 1, 0, SERVE, 1110, 1170);
        is("the least", x.bound(0, 1), 1010);
        is("the least, still", x.bound(1, 0), -980);
        x.report(1, 1, 0, 0, 0, ASK, 90, 200);
        is("told again, less: the least is the other's", x.bound(0, 1), 1020);
        x.close(0);
        is("closed ones tell too", x.bound(0, 3), 745);
        x.drop(0);
        is("dropped ones do not", x.bound(0, 3), NO);
        is("what is left", x.bound(1, 0), -970);
        is("what is left", x.bound(0, 1), 1020);
        TracePost y = new TracePost();
        y.report(0, 2, 1, 5, 0, SERVE, LAST, LAST);
        is("a hole", y.bound(4, 5), NO);
        y.report(0, 1, 2, 4, 0, ASK, 0, 0);
        is("lost ones tell", y.bound(4, 5), LAST);
        is("lost ones tell", y.bound(5, 4), -LAST);
    }

    private static void skew() {
        TracePost x = clocks();
        is("least", x.skew(0, 1, 0), 980);
        is("greatest", x.skew(0, 1, 1), 1020);
        is("the other way", x.skew(1, 0, 0), -1020);
        is("the other way", x.skew(1, 0, 1), -980);
        is("by another one", x.skew(0, 2, 0), -(1100 - 980));
        is("by another one", x.skew(0, 2, 1), 1020 - 1090);
        is("one end", x.skew(0, 3, 1), 745);
        is("no end that way", x.skew(0, 3, 0), NO);
        is("no end that way", x.skew(3, 0, 1), NO);
        is("the one end", x.skew(3, 0, 0), -745);
        is("by two others", x.skew(2, 3, 1), 1100 - 980 + 745);
        is("none at all", x.skew(4, 5, 0), NO);
        is("none at all", x.skew(4, 5, 1), NO);
        is("itself", x.skew(1, 1, 0), NO);
        is("itself", x.skew(1, 1, 1), NO);
        for (int v : new int[] {-1, 6, MIN, MAX}) {
            is("x " + v, x.skew(v, 0, 0), NO);
            is("y " + v, x.skew(0, v, 0), NO);
        }
        for (int v : new int[] {-1, 2, MIN, MAX}) {
            is("what " + v, x.skew(0, 1, v), NO);
        }
        // d(0) - d(1) at most 980: the one number that is left.
        x.report(1, 1, 0, 0, 0, POST, 0, 20);
        x.report(1, 2, 1, 1, 0, TAKE, 1000, 1000);
        is("a ring of sum 0 is none", x.count(6), 1);
        is("least", x.skew(0, 1, 0), 980);
        is("greatest", x.skew(0, 1, 1), 980);
        x.report(1, 3, 0, 0, 0, POST, 0, 21);
        x.report(1, 4, 3, 1, 0, TAKE, 1000, 1000);
        is("they do not agree", x.count(6), 0);
        is("no least", x.skew(0, 1, 0), NO);
        is("no greatest, of others too", x.skew(0, 3, 1), NO);
        x.drop(1);
        is("they agree again", x.skew(0, 1, 1), 1020);
    }

    /** d(x) - d(y) is at most n, told by one post and its take; n is -500 .. 500. */
    private static void tellBound(TracePost x, int trace, int number, int from, int to, long n) {
        x.report(trace, number, 0, from, 0, POST, 0, 500);
        x.report(trace, number + 1, number, to, 0, TAKE, 500 + n, 2000);
    }

    private static void ring() {
        TracePost x = new TracePost();
        is("they agree", x.ring(0), NONE);
        int[] row = {2, 5, 0, 4, 1, 3};
        for (int i = 0; i < 6; i++) {
            tellBound(x, 0, 1 + 2 * i, row[i], row[(i + 1) % 6], i == 0 ? -1 : 0);
        }
        int[] want = {0, 4, 1, 3, 2, 5};
        for (int i = 0; i < 6; i++) {
            is("ring of six, " + i, x.ring(i), want[i]);
        }
        for (int v : new int[] {-1, 6, MIN, MAX}) {
            is("ring " + v, x.ring(v), NONE);
        }
        // 5 back to 4: 4, 1, 3, 2, 5 is a ring of five, then 3 back to 4 one of three.
        tellBound(x, 1, 1, 5, 4, 0);
        is("ring of five starts at the least", x.ring(0), 1);
        is("ring of five", x.ring(1), 3);
        is("ring of five", x.ring(4), 4);
        is("ring of five", x.ring(5), NONE);
        tellBound(x, 1, 3, 3, 4, -1);
        is("ring of three", x.ring(0), 1);
        is("ring of three", x.ring(1), 3);
        is("ring of three", x.ring(2), 4);
        is("ring of three", x.ring(3), NONE);
        x.drop(0);
        is("they agree", x.ring(0), NONE);
    }

    private static void ringOrder() {
        TracePost x = new TracePost();
        tellBound(x, 0, 1, 4, 5, -3);
        tellBound(x, 0, 3, 5, 4, 2);
        is("the only one", x.ring(0), 4);
        tellBound(x, 0, 5, 1, 3, -1);
        tellBound(x, 0, 7, 3, 1, 0);
        is("the least first", x.ring(0), 1);
        is("not the least sum", x.ring(1), 3);
        tellBound(x, 0, 9, 1, 2, 0);
        tellBound(x, 0, 11, 2, 1, 0);
        is("a sum of 0 is no ring", x.ring(1), 3);
        tellBound(x, 0, 13, 2, 1, -1);
        is("the least second", x.ring(1), 2);
        tellBound(x, 1, 1, 0, 1, -9);
        tellBound(x, 1, 3, 1, 3, -9);
        tellBound(x, 1, 5, 3, 0, -9);
        is("less of them ahead of lesser ones", x.ring(0), 1);
        is("and no more", x.ring(2), NONE);
    }

    private static void put() {
        TracePost x = clocks();
        is("two have another d", x.put(), 2);
        is("d(0)", x.moved(0), 0);
        is("d(1): 980 .. 1020 less than d(0)", x.moved(1), -980);
        is("d(2): 70 .. 120, and 1090 .. 1100 more than d(1)", x.moved(2), 110);
        is("d(3)", x.moved(3), 0);
        is("put again: none", x.put(), 0);
        x.report(1, 1, 0, 0, 0, ASK, 0, 10);
        x.report(1, 2, 1, 1, 0, SERVE, 0, 100);
        is("they do not agree", x.put(), STATE);
        is("d stays", x.moved(1), -980);
        x.drop(0);
        x.drop(1);
        is("what is told no more still moves", x.moved(1), -980);
        is("back to 0", x.put(), 2);
        is("d(1)", x.moved(1), 0);
    }

    private static void putAhead() {
        TracePost x = new TracePost();
        tellBound(x, 0, 1, 3, 5, -7);
        is("only by those ahead", x.put(), 1);
        is("d(3)", x.moved(3), 0);
        is("d(5)", x.moved(5), 7);
        tellBound(x, 0, 3, 5, 4, -2);
        is("4 by 3, then 5 by both", x.put(), 1);
        is("d(4): at least d(3) + 9", x.moved(4), 9);
        is("d(5)", x.moved(5), 7);
        TracePost y = new TracePost();
        tellBound(y, 0, 1, 2, 0, -4);
        is("below 0", y.put(), 1);
        is("d(2)", y.moved(2), -4);
        tellBound(y, 0, 3, 1, 2, 1);
        is("1 is set ahead of 2, by what 2 allows", y.put(), 1);
        is("d(1)", y.moved(1), -3);
        is("d(2)", y.moved(2), -4);
    }

    private static void moved() {
        TracePost x = clocks();
        is("not put yet", x.moved(1), 0);
        x.put();
        is("put", x.moved(1), -980);
        for (int v : new int[] {-1, 6, MIN, MAX}) {
            is("service " + v, x.moved(v), NO);
        }
    }

    private static void attempt() {
        TracePost x = new TracePost();
        is("one", x.attempt(5, 10000000000L), 1);
        is("the same again", x.attempt(5, -10000000000L), 1);
        is("tried as 0 is tried", x.attempt(0, 0), 2);
        is("too much", x.attempt(1, 10000000001L), BAD);
        is("too little", x.attempt(1, -10000000001L), BAD);
        is("far too much", x.attempt(1, Long.MAX_VALUE), BAD);
        is("far too little", x.attempt(1, Long.MIN_VALUE), BAD);
        for (int v : new int[] {-1, 6, MIN, MAX}) {
            is("service " + v, x.attempt(v, 0), NONE);
            is("none is ahead of bad", x.attempt(v, Long.MAX_VALUE), NONE);
        }
        is("tried", x.count(10), 2);
        is("d is not what is tried", x.moved(5), 0);
        for (int s = 0; s < 6; s++) {
            x.attempt(s, s);
        }
        is("all", x.count(10), 6);
        x.check();
        is("none any more", x.count(10), 0);
        for (int s = 0; s < 6; s++) {
            is("each anew", x.attempt(s, 1), s + 1);
        }
    }

    private static void check() {
        TracePost x = clocks();
        is("nothing tried, 1 to 0 is not so", x.check(), 6);
        x.attempt(1, -980);
        is("1 to 2 is not so", x.check(), 6 + 2);
        x.attempt(1, -980);
        x.attempt(2, 110);
        is("all is so", x.check(), NONE);
        is("nothing is tried then", x.count(10), 0);
        is("and all are 0", x.check(), 6);
        x.attempt(1, -1021);
        is("the first of several", x.check(), 1);
        x.attempt(1, -1020);
        x.attempt(2, 80);
        is("just so", x.check(), NONE);
        x.attempt(1, -980);
        x.attempt(2, 121);
        is("2 to 1", x.check(), 2 * 6 + 1);
        x.attempt(0, 10000000000L);
        x.attempt(1, -10000000000L);
        is("far off", x.check(), 1);
        x.put();
        is("what is put is not tried", x.check(), 6);
        is("no pairs", new TracePost().check(), NONE);
        TracePost y = new TracePost();
        tellBound(y, 0, 1, 4, 5, 3);
        y.attempt(4, 4);
        is("the last but one", y.check(), 4 * 6 + 5);
        y.attempt(4, 3);
        is("as much as can be", y.check(), NONE);
    }

    private static void parts(String what, TracePost x, long[]... want) {
        for (int i = 0; i < want.length; i++) {
            for (int w = 0; w < 3; w++) {
                is(what + ", part " + i + " what " + w, x.part(i, w), want[i][w]);
            }
        }
        is(what + ", no more parts", x.part(want.length, 0), NO);
    }

    private static void way() {
        TracePost x = new TracePost();
        x.report(0, 1, 0, 0, 0, SPAN, 0, 100);
        is("alone", x.way(0, 0), 1);
        parts("alone", x, new long[] {1, 0, 100});
        x.report(0, 2, 1, 0, 0, SPAN, 20, 90);
        x.report(0, 3, 1, 0, 0, SPAN, 10, 30);
        x.report(0, 4, 2, 0, 0, SPAN, 15, 40);
        x.report(0, 5, 1, 0, 0, POST, 90, 95);
        is("the latest first, then what is below 20", x.way(0, 0), 4);
        // 3 ends at 30, above 20, so it is not on the way; 4 begins ahead of 2.
        parts("two kids", x, new long[] {1, 0, 20}, new long[] {4, 20, 40}, new long[] {2, 40, 90}, new long[] {1, 90, 100});
        x.report(0, 6, 1, 0, 0, SPAN, 5, 20);
        is("one that ends where the other begins", x.way(0, 0), 5);
        parts("three kids", x, new long[] {1, 0, 5}, new long[] {6, 5, 20}, new long[] {4, 20, 40}, new long[] {2, 40, 90},
            new long[] {1, 90, 100});
        is("no such root", x.way(0, 1), NONE);
        is("no such root", x.way(0, -1), NONE);
        is("no such root", x.way(0, MAX), NONE);
        is("no such root", x.way(0, MIN), NONE);
        is("empty", x.way(1, 0), NONE);
        is("trace -1", x.way(-1, 0), NONE);
        is("trace 20", x.way(20, 0), NONE);
        x.report(0, 7, 7, 0, 0, SPAN, 1, 2);
        is("a lost one is no root", x.way(0, 1), NONE);
        x.report(0, 8, 77, 0, 0, TAKE, 0, 3);
        is("a root with a hole above it, of any kind", x.way(0, 1), 1);
        parts("root 1", x, new long[] {8, 0, 3});
    }

    private static void wayEdges() {
        TracePost x = new TracePost();
        x.report(0, 1, 0, 0, 0, SPAN, 50, 50);
        is("begin and end alike", x.way(0, 0), 0);
        parts("begin and end alike", x);
        x.report(1, 1, 0, 0, 0, SPAN, 50, 100);
        x.report(1, 2, 1, 0, 0, SPAN, 60, 60);
        x.report(1, 3, 1, 0, 0, SPAN, 0, 101);
        x.report(1, 4, 1, 0, 0, SPAN, 0, 50);
        x.report(1, 5, 1, 0, 0, POST, 60, 70);
        x.report(1, 6, 1, 0, 0, TAKE, 60, 70);
        is("none of these", x.way(1, 0), 1);
        x.report(1, 9, 1, 0, 0, SPAN, 0, 100);
        is("one as long or longer takes all", x.way(1, 0), 1);
        parts("all", x, new long[] {9, 50, 100});
        x.report(1, 8, 1, 0, 0, SERVE + FAILED, 99, 100);
        is("of two ends alike the least number", x.way(1, 0), 2);
        parts("least number", x, new long[] {1, 50, 99}, new long[] {8, 99, 100});
        x.report(1, 7, 1, 0, 0, ASK, 60, 99);
        is("an end at c, and one below it", x.way(1, 0), 3);
        parts("three", x, new long[] {1, 50, 60}, new long[] {7, 60, 99}, new long[] {8, 99, 100});
        x.report(1, 10, 1, 0, 0, SPAN, 40, 51);
        is("an end just above f", x.way(1, 0), 4);
        parts("four", x, new long[] {10, 50, 51}, new long[] {1, 51, 60}, new long[] {7, 60, 99}, new long[] {8, 99, 100});
    }

    private static void wayMoved() {
        TracePost x = clocks();
        is("as told the serve of 1 is not on the way", x.way(0, 0), 1);
        x.put();
        is("moved", x.way(0, 0), 5);
        parts("moved", x, new long[] {1, 100, 140}, new long[] {2, 140, 150}, new long[] {4, 150, 170},
            new long[] {3, 170, 180}, new long[] {2, 180, 200});
        TracePost y = new TracePost();
        y.report(0, 1, 0, 0, 0, ASK, 500, 600);
        y.report(0, 2, 1, 1, 0, SERVE, 0, 50);
        y.report(1, 1, 0, 1, 0, SPAN, 3, 9);
        y.put();
        is("the root's own times are moved too", y.way(1, 0), 1);
        parts("root moved", y, new long[] {1, 503, 509});
    }

    /** Kids whose ends are not in the order of their begins. */
    private static void wayOfLaterEnds() {
        TracePost x = new TracePost();
        x.report(0, 1, 0, 0, 0, SPAN, 0, 100);
        x.report(0, 2, 1, 0, 0, SPAN, 10, 90);
        x.report(0, 3, 1, 0, 0, SPAN, 20, 30);
        x.report(0, 4, 1, 0, 0, SPAN, 40, 89);
        is("the greatest end", x.way(0, 0), 3);
        parts("the greatest end", x, new long[] {1, 0, 10}, new long[] {2, 10, 90}, new long[] {1, 90, 100});
    }

    /** One root with 29 kids, and a gap between each two. */
    private static void wayOfMostParts() {
        TracePost x = new TracePost();
        x.report(0, 1, 0, 0, 0, SPAN, 0, 1000);
        for (int n = 2; n <= 30; n++) {
            x.report(0, n, 1, 0, 0, SPAN, 10L * n, 10L * n + 5);
        }
        is("most parts", x.way(0, 0), 59);
        is("the first", x.part(0, 2), 20);
        is("the last", x.part(58, 1), 305);
        TracePost y = new TracePost();
        for (int n = 1; n <= 30; n++) {
            y.report(0, n, n - 1, 0, 0, SPAN, n, 100 - n);
        }
        is("most parts, as deep as can be", y.way(0, 0), 59);
        is("in the midst", y.part(29, 0), 30);
        is("the last", y.part(58, 0), 1);
        is("a share", y.share(0, 30), 40);
    }

    private static void part() {
        TracePost x = clocks();
        x.put();
        is("none told yet", x.part(0, 0), NO);
        x.way(0, 0);
        for (int v : new int[] {-1, 5, MIN, MAX}) {
            is("part " + v, x.part(v, 0), NO);
        }
        for (int v : new int[] {-1, 3, MIN, MAX}) {
            is("what " + v, x.part(0, v), NO);
        }
        is("from", x.part(2, 1), 150);
        x.way(0, 7);
        x.way(20, 0);
        is("a refused way changes nothing", x.part(2, 1), 150);
        x.share(0, 1);
        x.report(1, 1, 0, 0, 0, SPAN, 7, 9);
        x.close(1);
        x.close(0);
        is("nor does a share or a close", x.part(2, 0), 4);
        x.drop(0);
        x.put();
        is("nor a drop, nor a put", x.part(2, 2), 170);
        x.way(1, 0);
        parts("another way", x, new long[] {1, 7, 9});
        x.report(2, 1, 0, 0, 0, SPAN, 7, 7);
        x.way(2, 0);
        is("a way of no parts", x.part(0, 0), NO);
    }

    private static void share() {
        TracePost x = clocks();
        x.report(0, 8, 8, 0, 0, SPAN, 1, 2);
        x.report(0, 7, 77, 0, 0, SPAN, 1, 4);
        x.put();
        long[] want = {40, 30, 10, 20, 0, 0, 3, NO};
        for (int n = 1; n <= 8; n++) {
            is("span " + n, x.share(0, n), want[n - 1]);
        }
        for (int v : new int[] {-1, 0, 9, 77, 1000, MIN, MAX}) {
            is("number " + v, x.share(0, v), NO);
        }
        for (int v : new int[] {-1, 1, 20, MIN, MAX}) {
            is("trace " + v, x.share(v, 1), NO);
        }
        x.report(1, 1, 0, 0, 0, SPAN, 5, 5);
        is("no parts", x.share(1, 1), 0);
        x.report(1, 1, 0, 0, 0, SPAN, 0, LAST);
        is("the greatest", x.share(1, 1), LAST);
    }

    private static void slow() {
        TracePost x = new TracePost();
        for (int v : new int[] {-1, 8, MIN, MAX}) {
            is("act " + v, x.slow(v, 5), NONE);
            is("none is ahead of bad", x.slow(v, -5), NONE);
        }
        is("set", x.slow(7, 1000000000), 0);
        is("too much", x.slow(7, 1000000001), BAD);
        is("too little", x.slow(7, -1), BAD);
        is("far off", x.slow(7, MIN), BAD);
        is("far off", x.slow(7, MAX), BAD);
        is("not set", x.slow(7, 0), 1000000000);
        is("was not set", x.slow(7, 3), 0);
        is("another act", x.slow(0, 3), 0);
    }

    private static void quota() {
        TracePost x = new TracePost();
        is("at first", x.quota(20), 1);
        for (int v : new int[] {-1, 21, MIN, MAX}) {
            is("quota " + v, x.quota(v), BAD);
        }
        is("as set", x.quota(0), 20);
        x.report(0, 1, 0, 0, 0, SPAN, 0, 1);
        is("0: none is kept by it", x.close(0), 0);
        is("as set", x.quota(2), 0);
        for (int t = 1; t <= 3; t++) {
            x.report(t, 1, 0, 0, 0, SPAN, 0, 1);
            is("two are", x.close(t), t <= 2 ? 3 : 0);
        }
    }

    private static void close() {
        TracePost x = new TracePost();
        is("trace -1", x.close(-1), NONE);
        is("trace 20", x.close(20), NONE);
        is("trace far off", x.close(MIN), NONE);
        is("trace far off", x.close(MAX), NONE);
        is("no root", x.close(0), STATE);
        x.report(0, 1, 1, 0, 0, SPAN, 0, 1);
        is("no root but a lost one", x.close(0), STATE);
        is("still open", x.trace(0, 4), 0);
        is("none closed", x.count(9), 0);
        x.slow(2, 10);
        x.report(1, 1, 0, 0, 2, SPAN + FAILED, 5, 15);
        is("slow is ahead of failed", x.close(1), 1);
        x.report(2, 1, 0, 0, 2, SPAN, 5, 14);
        x.report(2, 3, 3, 0, 2, SPAN + FAILED, 5, 14);
        is("failed, though lost, is ahead of the quota", x.close(2), 2);
        x.report(3, 1, 0, 0, 2, SPAN, 5, 14);
        is("those did not use up the quota", x.close(3), 3);
        x.report(4, 1, 0, 0, 2, SPAN, 5, 14);
        is("this did", x.close(4), 0);
        is("closed", x.close(4), STATE);
        is("closed and kept", x.close(3), STATE);
        x.drop(3);
        is("dropped, it stays closed", x.close(3), STATE);
        x.report(5, 1, 0, 0, 2, SPAN, 5, 14);
        is("a dropped one counts for the quota", x.close(5), 0);
        x.report(6, 2, 0, 0, 2, SPAN, 6, 100);
        x.report(6, 3, 0, 0, 2, SPAN, 5, 14);
        is("only the first root is looked at", x.close(6), 0);
        x.slow(2, 0);
        x.report(7, 2, 0, 0, 2, SPAN, 6, 100);
        is("slow is not set any more", x.close(7), 0);
        x.report(8, 1, 0, 0, 3, SPAN, 6, 100);
        x.slow(3, 1000000000);
        is("another path", x.close(8), 3);
        x.slow(4, 1);
        x.report(10, 1, 0, 0, 4, SPAN, 7, 7);
        x.report(11, 1, 0, 0, 4, SPAN, 7, 8);
        is("0 is not slow", x.close(10), 3);
        is("1 is", x.close(11), 1);
        x.slow(3, 94);
        x.report(9, 1, 500, 0, 3, SPAN, 6, 100);
        is("just slow, below a hole", x.close(9), 1);
    }

    /** Root 0 / act 0 with kids: their services are the path's. */
    private static void closePath() {
        TracePost x = new TracePost();
        x.quota(1);
        x.report(0, 1, 0, 0, 0, SPAN, 0, 100);
        x.report(0, 2, 1, 1, 0, SPAN, 10, 20);
        is("path 0 1 0", x.close(0), 3);
        x.report(1, 1, 0, 0, 0, SPAN, 0, 100);
        x.report(1, 7, 1, 1, 0, SPAN, 40, 50);
        x.report(1, 8, 1, 0, 0, SPAN, 60, 70);
        is("the same path: likes next to one another are one", x.close(1), 0);
        x.report(2, 1, 0, 0, 0, SPAN, 0, 100);
        x.report(2, 2, 1, 1, 1, SPAN, 10, 20);
        is("another act", x.close(2), 3);
        x.report(3, 1, 0, 0, 0, SPAN, 0, 100);
        x.report(3, 2, 1, 1, 0, SPAN, 10, 100);
        is("shorter: 0 1", x.close(3), 3);
        x.report(4, 1, 0, 0, 0, SPAN, 0, 100);
        x.report(4, 2, 1, 1, 0, SPAN, 0, 20);
        is("turned round: 1 0", x.close(4), 3);
        x.report(5, 1, 0, 0, 0, SPAN, 0, 0);
        is("no parts", x.close(5), 3);
        x.report(6, 1, 0, 5, 7, SPAN, 9, 9);
        is("no parts: the same path", x.close(6), 0);
        is("it is counted there", x.stands(5), 2);
        x.report(7, 1, 0, 0, 0, ASK, 0, 100);
        x.report(7, 2, 1, 1, 0, SERVE, 1010, 1020);
        x.put();
        is("by moved times 0 1", x.way(7, 0), 2);
        is("the path is by moved times", x.close(7), 0);
        is("as that of 3", x.stands(3), 2);
        x.report(8, 1, 0, 3, 3, SPAN, 0, 100);
        is("path 3", x.close(8), 3);
        x.report(9, 1, 0, 2, 2, SPAN, 0, 100);
        x.report(9, 2, 1, 4, 4, SPAN, 10, 20);
        x.report(9, 3, 1, 5, 5, SPAN, 30, 40);
        is("a longer one", x.close(9), 3);
        x.report(10, 1, 0, 3, 3, SPAN, 0, 100);
        is("nothing of the longer one is left", x.close(10), 0);
    }

    private static void kept() {
        TracePost x = new TracePost();
        is("none", x.kept(0), NONE);
        x.quota(20);
        for (int i = 0; i < 20; i++) {
            int t = 7 * i % 20;
            x.report(t, 1, 0, 0, 0, SPAN, 0, 1);
            if (t == 14) {
                x.quota(0);
            }
            is("close", x.close(t), t == 14 ? 0 : 3);
            x.quota(20);
        }
        int[] want = {0, 7, 1, 8, 15, 2, 9, 16, 3, 10, 17, 4, 11, 18, 5, 12, 19, 6, 13};
        for (int i = 0; i < 19; i++) {
            is("in the order of closing, " + i, x.kept(i), want[i]);
        }
        is("no more", x.kept(19), NONE);
        for (int v : new int[] {-1, 20, MIN, MAX}) {
            is("kept " + v, x.kept(v), NONE);
        }
        x.drop(0);
        is("dropped, it stays kept", x.kept(0), 0);
    }

    private static void stands() {
        TracePost x = new TracePost();
        for (int v : new int[] {-1, 0, 20, MIN, MAX}) {
            is("trace " + v, x.stands(v), NONE);
        }
        x.quota(0);
        x.report(0, 1, 0, 0, 0, SPAN, 0, 1);
        x.close(0);
        is("not kept", x.stands(0), NONE);
        is("missed", x.count(8), 1);
        x.report(1, 1, 0, 0, 0, SPAN + FAILED, 0, 1);
        x.close(1);
        is("kept", x.stands(1), 1);
        x.report(2, 1, 0, 0, 0, SPAN, 0, 1);
        x.close(2);
        is("one of the same path, kept by whatever", x.stands(1), 2);
        x.quota(1);
        x.report(3, 1, 0, 0, 0, SPAN, 0, 1);
        x.close(3);
        is("kept", x.stands(3), 1);
        x.report(4, 1, 0, 0, 1, SPAN, 0, 1);
        x.close(4);
        is("of another path", x.stands(3), 1);
        x.drop(3);
        x.report(5, 1, 0, 0, 0, SPAN, 0, 1);
        x.close(5);
        is("the latest one, dropped or not", x.stands(3), 2);
        is("not the one before it", x.stands(1), 2);
        is("not kept", x.stands(5), NONE);
        is("missed", x.count(8), 1);
    }

    private static void drop() {
        TracePost x = clocks();
        is("empty", x.drop(1), 0);
        for (int v : new int[] {-1, 20, MIN, MAX}) {
            is("trace " + v, x.drop(v), NONE);
        }
        is("six", x.drop(0), 6);
        is("none any more", x.spans(0), 0);
        is("none any more", x.span(0, 1, 0), NONE);
        is("no root", x.root(0, 0), NONE);
        is("no holes", x.trace(0, 1), 0);
        is("it stays open", x.trace(0, 4), 0);
        is("no pairs", x.count(5), 0);
        is("told again: new", x.report(0, 1, 0, 0, 0, ASK, 100, 200), 1);
        is("closed", x.close(0), 3);
        is("one", x.drop(0), 1);
        is("it stays kept", x.trace(0, 4), 1);
        is("again", x.drop(0), 0);
        is("dropped", x.count(3), 7);
        is("there", x.count(0), 0);
        x.report(1, 1, 1, 0, 0, SPAN, 0, 1);
        is("lost ones go too", x.drop(1), 1);
    }

    private static void total() {
        TracePost x = new TracePost();
        long[] lengths = {0, 1, 2, 3, 4, 7, 8, 536870911, 536870912, LAST};
        int[] steps = {0, 1, 2, 2, 3, 3, 4, 29, 30, 30};
        for (int i = 0; i < lengths.length; i++) {
            x.report(0, 1 + i, 0, 5, 7, i % 2 == 0 ? SPAN : TAKE + FAILED, 0, lengths[i]);
            is("step of " + lengths[i], x.total(5, 7, steps[i]), i > 0 && steps[i - 1] == steps[i] ? 2 : 1);
        }
        is("how many", x.total(5, 7, -1), 10);
        is("how many failed", x.total(5, 7, -2), 5);
        is("of another act", x.total(5, 6, -1), 0);
        is("of another service", x.total(4, 7, -1), 0);
        is("a step without", x.total(5, 7, 15), 0);
        for (int v : new int[] {-3, 31, MIN, MAX}) {
            is("step " + v, x.total(5, 7, v), NONE);
        }
        for (int v : new int[] {-1, 6, MIN, MAX}) {
            is("service " + v, x.total(v, 0, 0), NONE);
        }
        for (int v : new int[] {-1, 8, MIN, MAX}) {
            is("act " + v, x.total(0, v, 0), NONE);
        }
        x.drop(0);
        is("dropped ones count", x.total(5, 7, -1), 10);
        is("dropped ones count", x.total(5, 7, -2), 5);
        is("dropped ones count", x.total(5, 7, 2), 2);
        x.report(0, 1, 0, 5, 7, SPAN, 0, 0);
        is("the same again counts again", x.total(5, 7, 0), 2);
        x.report(0, 1, 0, 5, 7, SPAN, 0, 0);
        is("alike: not", x.total(5, 7, 0), 2);
        x.report(0, 1, 0, 5, 7, SPAN, 0, 1);
        is("a greater one: not", x.total(5, 7, 1), 1);
        x.report(0, 1, 0, 4, 6, SPAN + FAILED, 1, 3);
        is("in place of: the old one is gone", x.total(5, 7, 0), 1);
        is("in place of: the old one is gone", x.total(5, 7, -1), 10);
        is("in place of: the new one is there", x.total(4, 6, 2), 1);
        is("in place of: the new one is there", x.total(4, 6, -2), 1);
        x.close(0);
        is("closed ones count", x.total(4, 6, -1), 1);
    }

    private static void percent() {
        TracePost x = new TracePost();
        is("there are none", x.percent(0, 0, 50), NONE);
        is("there are none, ahead of bad", x.percent(0, 0, 101), NONE);
        for (int n = 1; n <= 4; n++) {
            x.report(0, n, 0, 0, 0, SPAN, 0, new long[] {0, 5, 5, LAST}[n - 1]);
        }
        int[][] want = {{1, 0}, {25, 0}, {26, 3}, {50, 3}, {75, 3}, {76, 30}, {100, 30}};
        for (int[] row : want) {
            is("percent " + row[0], x.percent(0, 0, row[0]), row[1]);
        }
        for (int v : new int[] {0, -1, 101, MIN, MAX}) {
            is("percent " + v, x.percent(0, 0, v), BAD);
        }
        for (int v : new int[] {-1, 6, MIN, MAX}) {
            is("service " + v, x.percent(v, 0, 50), NONE);
        }
        for (int v : new int[] {-1, 8, MIN, MAX}) {
            is("act " + v, x.percent(0, v, 50), NONE);
        }
        x.drop(0);
        is("dropped ones count", x.percent(0, 0, 26), 3);
        for (int n = 1; n <= 3; n++) {
            x.report(1, n, 0, 1, 1, SPAN, 0, n);
        }
        is("a third is not 34 percent", x.percent(1, 1, 34), 2);
        is("a third is 33 percent", x.percent(1, 1, 33), 1);
    }

    private static void flow() {
        TracePost x = new TracePost();
        x.report(0, 1, 0, 0, 0, ASK, 0, 9);
        is("without any", x.flow(0, 3, 2), 1);
        x.report(0, 2, 1, 1, 0, SERVE, 0, 9);
        x.report(0, 3, 1, 1, 0, SERVE, 0, 9);
        is("one ask, though two serves", x.flow(0, 1, 0), 1);
        is("none failed", x.flow(0, 1, 1), 0);
        is("none without", x.flow(0, 3, 2), 0);
        x.report(0, 4, 1, 2, 0, SERVE + FAILED, 0, 9);
        is("a failed serve of another service", x.flow(0, 1, 1), 0);
        is("of that one", x.flow(0, 2, 1), 1);
        is("not the other way", x.flow(1, 0, 0), 0);
        x.report(1, 5, 6, 0, 0, ASK + FAILED, 0, 9);
        x.report(1, 6, 5, 0, 0, SERVE, 0, 9);
        is("lost, and of one service", x.flow(0, 0, 0), 1);
        is("the ask failed", x.flow(0, 0, 1), 1);
        x.report(2, 1, 0, 0, 0, ASK + FAILED, 0, 9);
        x.report(2, 2, 1, 1, 0, TAKE, 0, 9);
        x.report(2, 3, 0, 0, 0, POST, 0, 9);
        x.report(2, 4, 3, 1, 0, SERVE, 0, 9);
        is("no serve of an ask", x.flow(0, 1, 0), 1);
        is("a failed ask without a serve", x.flow(0, 1, 1), 0);
        is("without any", x.flow(0, 0, 2), 1);
        is("of another service", x.flow(5, 0, 2), 0);
        x.close(2);
        is("closed ones count", x.flow(0, 0, 2), 1);
        x.drop(2);
        is("dropped ones do not", x.flow(0, 0, 2), 0);
        for (int v : new int[] {-1, 6, MIN, MAX}) {
            is("x " + v, x.flow(v, 0, 0), NONE);
            is("y " + v, x.flow(0, v, 0), NONE);
            is("y must be one", x.flow(0, v, 2), NONE);
        }
        for (int v : new int[] {-1, 3, MIN, MAX}) {
            is("what " + v, x.flow(0, 1, v), NONE);
        }
    }

    private static void count() {
        TracePost x = clocks();
        x.report(0, 6, 5, 3, 0, TAKE, 900, 950);
        x.report(0, 6, 5, 3, 0, TAKE, 901, 950);
        x.report(0, 6, 5, 3, 0, TAKE, 899, 950);
        x.report(0, 6, 5, 3, 0, TAKE, 900, 950);
        x.report(1, 1, 0, 0, 5, SPAN, 0, 5);
        x.report(2, 1, 0, 0, 0, SPAN, 0, 5);
        x.report(2, 2, 1, 0, 0, SPAN, 0, 5);
        x.drop(2);
        x.attempt(4, 4);
        x.close(0);
        x.quota(0);
        x.close(1);
        x.close(1);
        x.report(1, 1, 0, 0, 5, SPAN, 0, 5);
        int[] want = {7, 1, 3, 2, 1, 3, 1, 1, 1, 2, 1};
        for (int what = 0; what <= 10; what++) {
            is("count " + what, x.count(what), want[what]);
        }
        for (int v : new int[] {-1, 11, MIN, MAX}) {
            is("what " + v, x.count(v), NONE);
        }
        x.report(3, 1, 0, 0, 0, ASK, 0, 10);
        x.report(3, 2, 1, 1, 0, SERVE, 0, 100);
        is("pairs", x.count(5), 4);
        is("they do not agree", x.count(6), 0);
        x.drop(3);
        is("they agree again", x.count(6), 1);
        is("dropped", x.count(3), 4);
    }
}
