/** The boundaries of Terms, part 4, and of promises 19 to 28: traces that are kept, totals, flows, counts. */
public final class KeepEdgeTest {
    private static final int NONE = TracePost.NONE, BAD = TracePost.BAD, STATE = TracePost.STATE;
    private static final int SPAN = 0, ASK = 1, SERVE = 2, POST = 3, TAKE = 4, FAILED = 8;
    private static final int MIN = Integer.MIN_VALUE, MAX = Integer.MAX_VALUE, LAST = 1000000000;

    private static final Quotes doc = new Quotes("edges of keeping");

    public static void main(String[] args) {
        openAtFirst();
        theFirstRoot();
        likesOnce();
        samePath();
        pathOfNoParts();
        atLeastSlow();
        slowOfItsAct();
        slowIfSet();
        aFailedSpan();
        theFirstOfThese();
        lessThanTheQuota();
        closedBefore();
        standsForOne();
        theLatestKept();
        missedOnes();
        slowLimits();
        quotaLimits();
        closeAnswers();
        keptFrom0On();
        standsOfKept();
        dropAnswers();
        totalsThereOrDropped();
        steps();
        totalLimits();
        percentJust();
        percentLimits();
        flowOfServes();
        flowOfFailed();
        flowWithout();
        flowLimits();
        counts();
        doc.end();
    }

    /** A trace of one span; service and act are its path. */
    private static void one(TracePost x, int trace, int service, int act, long begin, long end) {
        x.report(trace, 1, 0, service, act, SPAN, begin, end);
    }

    private static void one(TracePost x, int trace) {
        one(x, trace, 0, 0, 0, 10);
    }

    private static void openAtFirst() {
        doc.by("A TRACE is open at first; to CLOSE it");
        TracePost x = new TracePost();
        for (int t = 0; t < 20; t++) {
            one(x, t);
            doc.is("open", x.trace(t, 4), 0);
            x.close(t);
            doc.is("closed", x.trace(t, 4), t == 0 ? 1 : 2);
        }
        doc.is("all", x.count(9), 20);
    }

    private static void theFirstRoot() {
        doc.by("its ROOT is the first one (it has one)");
        TracePost x = new TracePost();
        x.slow(1, 50);
        x.report(0, 9, 0, 0, 0, SPAN, 10, 20);
        x.report(0, 2, 0, 0, 1, SPAN, 11, 90);
        doc.is("the one that begins first is not slow", x.close(0), 3);
        x.report(1, 9, 0, 0, 0, SPAN, 11, 20);
        x.report(1, 2, 0, 0, 1, SPAN, 11, 90);
        doc.is("of begins alike the least number, that is slow", x.close(1), 1);
        x.report(2, 9, 0, 0, 0, SPAN, 12, 20);
        x.report(2, 2, 900, 0, 1, SPAN, 11, 90);
        doc.is("below a hole, too", x.close(2), 1);
        x.report(3, 1, 3, 0, 1, SPAN, 0, 90);
        x.report(3, 3, 1, 0, 1, SPAN, 0, 90);
        x.report(3, 4, 0, 0, 0, SPAN, 10, 20);
        doc.is("lost ones are no roots: the path of trace 0", x.close(3), 0);
        doc.is("it is counted there", x.stands(0), 2);
    }

    /** Trace's root is 0 / 0, 0 .. 100; its kids, 10 long each from 10 on, have these services, act 0. */
    private static void pathOf(TracePost x, int trace, int... services) {
        one(x, trace, 0, 0, 0, 100);
        for (int i = 0; i < services.length; i++) {
            x.report(trace, 2 + i, 1, services[i], 0, SPAN, 10L + 10 * i, 20L + 10 * i);
        }
    }

    private static void likesOnce() {
        doc.by("(likes next to one another once)");
        TracePost x = new TracePost();
        pathOf(x, 0, 1);
        doc.is("0 1 0", x.close(0), 3);
        pathOf(x, 1, 1, 1);
        doc.is("0 1 1 0 is 0 1 0", x.close(1), 0);
        pathOf(x, 2, 0, 1, 1, 0);
        doc.is("0 0 1 1 0 0 is 0 1 0", x.close(2), 0);
        pathOf(x, 3, 1, 0, 1);
        doc.is("0 1 0 1 0 is another one", x.close(3), 3);
        pathOf(x, 4, 1, 0, 0, 1, 1);
        doc.is("0 1 0 0 1 1 0 is that", x.close(4), 0);
        doc.is("of the first", x.stands(0), 3);
        doc.is("of the fourth", x.stands(3), 2);
        TracePost y = new TracePost();
        pathOf(y, 0);
        doc.is("0", y.close(0), 3);
        pathOf(y, 1, 0, 0, 0);
        doc.is("0 0 0 0 is 0", y.close(1), 0);
    }

    private static void samePath() {
        doc.by("its PATH the row of SERVICES and ACTS of its WAY's PARTS in order");
        TracePost x = new TracePost();
        pathOf(x, 0, 1, 2);
        doc.is("0 1 2 0", x.close(0), 3);
        pathOf(x, 1, 2, 1);
        doc.is("0 2 1 0", x.close(1), 3);
        pathOf(x, 2, 1, 2, 3);
        doc.is("0 1 2 3 0", x.close(2), 3);
        pathOf(x, 3, 1);
        doc.is("0 1 0", x.close(3), 3);
        one(x, 4, 0, 0, 0, 30);
        x.report(4, 2, 1, 1, 0, SPAN, 10, 20);
        x.report(4, 3, 1, 2, 0, SPAN, 20, 30);
        doc.is("0 1 2: a first piece of another one", x.close(4), 3);
        one(x, 5, 0, 0, 0, 100);
        x.report(5, 2, 1, 1, 1, SPAN, 10, 20);
        doc.is("another act", x.close(5), 3);
        // 0 / 1 and 1 / 0 must not be taken for one another.
        one(x, 6, 0, 1, 0, 100);
        doc.is("0 / 1", x.close(6), 3);
        one(x, 7, 1, 0, 0, 100);
        doc.is("1 / 0", x.close(7), 3);
        one(x, 8, 5, 7, 0, 100);
        doc.is("5 / 7", x.close(8), 3);
        one(x, 10, 0, 0, 0, 100);
        x.report(10, 2, 1, 1, 0, SPAN, 10, 100);
        doc.is("0 1: a last piece of it is 1", x.close(10), 3);
        one(x, 11, 1, 0, 0, 100);
        x.report(11, 2, 1, 0, 0, SPAN, 10, 100);
        doc.is("1 0: a first piece of it is 1", x.close(11), 3);
        one(x, 12, 0, 0, 7, 7);
        doc.is("none", x.close(12), 3);
        one(x, 13, 0, 0, 7, 8);
        doc.is("0", x.close(13), 3);
        pathOf(x, 9, 1, 2);
        x.report(9, 9, 3, 2, 0, ASK, 25, 28);
        x.report(9, 8, 1, 5, 5, POST, 50, 60);
        doc.is("0 1 2 0, by other spans", x.close(9), 0);
        doc.is("as the first", x.stands(0), 2);
        one(x, 14, 1, 0, 0, 100);
        doc.is("1 / 0 once more: nothing of the longer one is in it", x.close(14), 0);
        doc.is("it is counted there", x.stands(7), 2);
        TracePost y = new TracePost();
        for (int t = 0; t < 3; t++) {
            y.report(t, 1, 0, 0, 0, SPAN, 0, 1000);
            for (int n = 2; n <= 30; n++) {
                y.report(t, n, 1, 1, t == 1 && n == 30 ? 2 : 1, SPAN, 10L * n, 10L * n + 5);
            }
        }
        doc.is("59 long", y.close(0), 3);
        doc.is("59 long, the last but one is other", y.close(1), 3);
        doc.is("59 long, as the first", y.close(2), 0);
        doc.is("the first stands for two", y.stands(0), 2);
        doc.is("the other for one", y.stands(1), 1);
    }

    private static void pathOfNoParts() {
        doc.by("(BEGIN and END alike: no PARTS.)");
        TracePost x = new TracePost();
        one(x, 0, 1, 1, 5, 5);
        doc.is("a path of none", x.close(0), 3);
        one(x, 1, 2, 2, 6, 6);
        doc.is("the same path", x.close(1), 0);
        one(x, 2, 1, 1, 5, 6);
        doc.is("one step longer: another path", x.close(2), 3);
        doc.is("two", x.stands(0), 2);
        one(x, 3, 3, 3, 0, 0);
        x.quota(2);
        doc.is("open traces have no path: one was kept by this", x.close(3), 3);
    }

    private static int closeWith(int slow, long length) {
        TracePost x = new TracePost();
        x.quota(0);
        x.slow(3, slow);
        one(x, 0, 0, 3, LAST - length, LAST);
        return x.close(0);
    }

    private static void atLeastSlow() {
        doc.by("1 END less BEGIN of the ROOT (as told) is at least SLOW of its ACT (if that is set)");
        for (int slow : new int[] {1, 2, 50, LAST - 1, LAST}) {
            doc.is("one less than " + slow, closeWith(slow, slow - 1), 0);
            doc.is("just " + slow, closeWith(slow, slow), 1);
            if (slow < LAST) {
                doc.is("one more than " + slow, closeWith(slow, slow + 1), 1);
            }
        }
        TracePost x = new TracePost();
        x.quota(0);
        x.slow(0, 11);
        one(x, 0);
        x.report(0, 2, 1, 0, 0, SPAN, 0, 500);
        doc.is("a kid that is slow does not count", x.close(0), 0);
    }

    private static void slowOfItsAct() {
        doc.by("SLOW of its ACT");
        TracePost x = new TracePost();
        x.quota(0);
        for (int act = 0; act < 8; act++) {
            x.slow(act, 10 + act);
        }
        for (int act = 0; act < 8; act++) {
            one(x, act, 5, act, 0, 10 + act);
            doc.is("slow by its own, act " + act, x.close(act), 1);
            one(x, 8 + act, 5, act, 0, 9 + act);
            doc.is("not slow by its own, act " + act, x.close(8 + act), 0);
        }
    }

    private static void slowIfSet() {
        doc.by("SLOW of an ACT is ticks; 0: it is not set.");
        doc.is("never set, as long as can be", new TracePost().slow(3, 0), 0);
        doc.is("not set", closeWith(0, LAST), 0);
        doc.is("not set, no length", closeWith(0, 0), 0);
        doc.is("set to 1", closeWith(1, 1), 1);
        TracePost x = new TracePost();
        x.quota(0);
        x.slow(0, 5);
        x.slow(0, 0);
        one(x, 0);
        doc.is("not set any more", x.close(0), 0);
        x.slow(0, 10);
        one(x, 1);
        doc.is("set again", x.close(1), 1);
        doc.is("what was closed before stays as it is", x.trace(0, 4), 2);
    }

    private static void aFailedSpan() {
        doc.by("2 a SPAN of it is FAILED");
        for (int kind = 0; kind <= 4; kind++) {
            TracePost x = new TracePost();
            x.quota(0);
            one(x, 0);
            x.report(0, 2, 1, 0, 0, kind + FAILED, 0, 0);
            doc.is("a kid of kind " + kind, x.close(0), 2);
            one(x, 1);
            x.report(1, 2, 1, 0, 0, kind, 0, 0);
            doc.is("not failed, kind " + kind, x.close(1), 0);
        }
        TracePost x = new TracePost();
        x.quota(0);
        x.report(0, 1, 0, 0, 0, SPAN + FAILED, 0, 10);
        doc.is("the root", x.close(0), 2);
        one(x, 1);
        x.report(1, 2, 900, 0, 0, SPAN + FAILED, 5, 10);
        doc.is("another root", x.close(1), 2);
        one(x, 2);
        x.report(2, 2, 2, 0, 0, SPAN + FAILED, 5, 10);
        doc.is("a lost one", x.close(2), 2);
        one(x, 3);
        x.report(3, 2, 1, 0, 0, SPAN + FAILED, 5, 10);
        x.report(3, 2, 1, 0, 0, SPAN, 5, 10);
        doc.is("one that is not there any more", x.close(3), 0);
        one(x, 4);
        x.report(4, 2, 1, 0, 0, SPAN + FAILED, 5, 10);
        x.drop(4);
        one(x, 4);
        doc.is("one that was dropped", x.close(4), 0);
        one(x, 5);
        doc.is("one of another trace", x.close(5), 0);
    }

    private static void theFirstOfThese() {
        doc.by("It is KEPT, by the first of these that is so");
        TracePost x = new TracePost();
        x.quota(20);
        x.slow(0, 10);
        x.report(0, 1, 0, 0, 0, SPAN + FAILED, 0, 10);
        doc.is("slow, failed, within the quota", x.close(0), 1);
        x.report(1, 1, 0, 0, 0, SPAN + FAILED, 0, 9);
        doc.is("failed, within the quota", x.close(1), 2);
        one(x, 2, 0, 0, 0, 10);
        doc.is("slow, within the quota", x.close(2), 1);
        one(x, 3, 0, 0, 0, 9);
        doc.is("within the quota", x.close(3), 3);
    }

    private static void lessThanTheQuota() {
        doc.by("3 of TRACES with the same PATH that were CLOSED before less than the QUOTA were KEPT by this.");
        for (int quota : new int[] {0, 1, 2, 7, 19, 20}) {
            TracePost x = new TracePost();
            x.quota(quota);
            for (int t = 0; t < 20; t++) {
                one(x, t);
                doc.is("quota " + quota + ", trace " + t, x.close(t), t < quota ? 3 : 0);
            }
            doc.is("kept", x.count(7), quota);
        }
        TracePost x = new TracePost();
        x.slow(1, 10);
        x.report(0, 1, 0, 0, 0, SPAN + FAILED, 0, 10);
        doc.is("by 2", x.close(0), 2);
        one(x, 1);
        doc.is("what is kept by 2 does not use up the quota", x.close(1), 3);
        one(x, 2, 0, 1, 0, 10);
        doc.is("by 1", x.close(2), 1);
        one(x, 3, 0, 1, 0, 9);
        doc.is("what is kept by 1 does not either", x.close(3), 3);
        one(x, 4, 0, 1, 0, 9);
        doc.is("used up", x.close(4), 0);
        one(x, 5, 0, 2, 0, 9);
        doc.is("each path has its own", x.close(5), 3);
    }

    private static void closedBefore() {
        doc.by("that were CLOSED before");
        TracePost x = new TracePost();
        for (int t = 0; t < 20; t++) {
            one(x, t);
        }
        doc.is("open ones do not count", x.close(19), 3);
        doc.is("a greater one closed before does", x.close(0), 0);
        doc.is("quota 2", x.quota(2), 1);
        doc.is("one more", x.close(5), 3);
        doc.is("no more", x.close(4), 0);
        x.drop(19);
        x.drop(5);
        doc.is("dropped ones count still", x.close(3), 0);
        x.quota(1);
        doc.is("less than what was kept", x.close(2), 0);
        x.quota(3);
        doc.is("one more", x.close(1), 3);
        doc.is("no more", x.close(6), 0);
    }

    private static void standsForOne() {
        doc.by("A KEPT one STANDS FOR 1");
        TracePost x = new TracePost();
        x.slow(1, 1);
        one(x, 0);
        one(x, 1, 0, 1, 0, 1);
        x.report(2, 1, 0, 0, 2, SPAN + FAILED, 0, 1);
        for (int t = 0; t < 3; t++) {
            doc.is("open", x.stands(t), NONE);
            x.close(t);
            doc.is("kept", x.stands(t), 1);
        }
        one(x, 3);
        x.close(3);
        doc.is("one more", x.stands(0), 2);
        x.quota(2);
        one(x, 4);
        x.close(4);
        doc.is("kept, it adds to none", x.stands(0), 2);
        doc.is("kept, it stands for 1", x.stands(4), 1);
    }

    private static void theLatestKept() {
        doc.by("one that is not KEPT adds 1 to that of the latest KEPT one with the same PATH (by whatever)");
        TracePost x = new TracePost();
        x.slow(0, 100);
        one(x, 9);
        x.close(9);
        one(x, 8);
        x.close(8);
        doc.is("by 3", x.stands(9), 2);
        x.report(7, 1, 0, 0, 0, SPAN + FAILED, 0, 10);
        x.close(7);
        one(x, 6);
        x.close(6);
        doc.is("by 2, the latest", x.stands(7), 2);
        doc.is("the first is as it was", x.stands(9), 2);
        one(x, 10, 0, 0, 0, 100);
        x.close(10);
        one(x, 5);
        x.close(5);
        doc.is("by 1, the latest", x.stands(10), 2);
        one(x, 11, 0, 1, 0, 10);
        x.close(11);
        one(x, 4);
        x.close(4);
        doc.is("not the latest of another path", x.stands(11), 1);
        doc.is("the latest of its own", x.stands(10), 3);
        x.drop(10);
        one(x, 3);
        x.close(3);
        doc.is("dropped or not", x.stands(10), 4);
        doc.is("none was missed", x.count(8), 0);
        TracePost y = new TracePost();
        for (int t = 0; t < 20; t++) {
            one(y, t);
            y.close(t);
            doc.is("as many as can be", y.stands(0), t + 1);
        }
    }

    private static void missedOnes() {
        doc.by("else it is MISSED.");
        TracePost x = new TracePost();
        x.quota(0);
        one(x, 0);
        x.close(0);
        doc.is("nothing kept", x.count(8), 1);
        one(x, 1);
        x.close(1);
        doc.is("one that is not kept does not stand for it", x.count(8), 2);
        x.quota(1);
        one(x, 2);
        x.close(2);
        doc.is("kept", x.count(8), 2);
        doc.is("it does not stand for those before it", x.stands(2), 1);
        one(x, 3);
        x.close(3);
        doc.is("stood for", x.count(8), 2);
        x.quota(0);
        one(x, 4, 0, 1, 0, 10);
        x.close(4);
        doc.is("another path", x.count(8), 3);
        TracePost y = new TracePost();
        y.quota(0);
        for (int t = 0; t < 20; t++) {
            one(y, t);
            y.close(t);
        }
        doc.is("all", y.count(8), 20);
    }

    private static void slowLimits() {
        doc.by("What it was. NONE; BAD: ticks not 0 .. 10^9.");
        doc.ints("ticks", 0, LAST, BAD, v -> new TracePost().slow(7, v));
        doc.ints("act", 0, 7, NONE, v -> new TracePost().slow(v, 5));
        for (int act : new int[] {-1, 8, MIN, MAX}) {
            doc.is("none is ahead of bad", new TracePost().slow(act, -1), NONE);
            doc.is("none is ahead of bad", new TracePost().slow(act, LAST + 1), NONE);
        }
        TracePost x = new TracePost();
        doc.is("was not set", x.slow(7, LAST), 0);
        doc.is("refused", x.slow(7, LAST + 1), BAD);
        doc.is("refused", x.slow(7, -1), BAD);
        doc.is("was the greatest", x.slow(7, 1), LAST);
        doc.is("was the least that is set", x.slow(7, 0), 1);
        doc.is("was not set", x.slow(7, 0), 0);
        doc.is("its neighbour was not set", x.slow(6, 0), 0);
    }

    private static void quotaLimits() {
        doc.by("The QUOTA: what it was. BAD: n not 0 .. 20.");
        doc.ints("n", 0, 20, BAD, v -> new TracePost().quota(v));
        TracePost x = new TracePost();
        doc.is("at first", x.quota(20), 1);
        doc.is("refused", x.quota(21), BAD);
        doc.is("refused", x.quota(-1), BAD);
        doc.is("was the greatest", x.quota(0), 20);
        doc.is("was the least", x.quota(0), 0);
    }

    private static void closeAnswers() {
        doc.by("A TRACE is CLOSED: 0 it is not KEPT, 1, 2, 3 by what. NONE; STATE: it is CLOSED, or has no ROOT.");
        TracePost x = new TracePost();
        doc.is("no spans", x.close(0), STATE);
        x.report(0, 1, 2, 0, 0, SPAN + FAILED, 0, 10);
        x.report(0, 2, 1, 0, 0, SPAN, 0, 10);
        doc.is("lost ones alone, though failed", x.close(0), STATE);
        doc.is("open still", x.trace(0, 4), 0);
        doc.is("it takes reports still", x.report(0, 3, 900, 0, 0, SPAN, 0, 10), 1);
        doc.is("a root", x.close(0), 2);
        doc.is("closed", x.close(0), STATE);
        one(x, 1);
        doc.is("by the quota", x.close(1), 3);
        doc.is("closed", x.close(1), STATE);
        one(x, 2);
        doc.is("not kept", x.close(2), 0);
        doc.is("closed", x.close(2), STATE);
        x.drop(2);
        doc.is("closed and without a root", x.close(2), STATE);
        one(x, 3);
        x.drop(3);
        doc.is("open and dropped: no root", x.close(3), STATE);
        doc.is("three were closed", x.count(9), 3);
        doc.is("stands as it stood", x.stands(1), 2);
    }

    private static void keptFrom0On() {
        doc.by("The i-th KEPT TRACE, in the order in which they were CLOSED. NONE.");
        TracePost x = new TracePost();
        x.quota(20);
        doc.is("none", x.kept(0), NONE);
        for (int t = 19; t >= 0; t--) {
            one(x, t);
            x.close(t);
            int last = 19 - t;
            doc.ints("i of " + (last + 1), 0, last, NONE, x::kept);
            doc.is("the latest", x.kept(last), t);
            doc.is("the first", x.kept(0), 19);
        }
    }

    private static void standsOfKept() {
        doc.by("What a KEPT TRACE STANDS FOR. NONE: it is not KEPT.");
        TracePost x = new TracePost();
        doc.is("empty", x.stands(0), NONE);
        one(x, 0);
        doc.is("open", x.stands(0), NONE);
        x.close(0);
        doc.is("kept", x.stands(0), 1);
        one(x, 1);
        x.close(1);
        doc.is("not kept", x.stands(1), NONE);
        x.drop(0);
        doc.is("dropped", x.stands(0), 2);
    }

    private static void dropAnswers() {
        doc.by("A TRACE's SPANS go (it stays open, or CLOSED): how many. NONE.");
        TracePost x = new TracePost();
        doc.is("empty", x.drop(0), 0);
        doc.is("open still", x.trace(0, 4), 0);
        one(x, 0);
        doc.is("one", x.drop(0), 1);
        doc.is("open still", x.trace(0, 4), 0);
        doc.is("it takes reports", x.report(0, 1, 0, 0, 0, SPAN, 0, 10), 1);
        x.close(0);
        doc.is("one", x.drop(0), 1);
        doc.is("kept still", x.trace(0, 4), 1);
        doc.is("none", x.drop(0), 0);
        doc.is("kept still", x.kept(0), 0);
        one(x, 1);
        x.close(1);
        doc.is("one", x.drop(1), 1);
        doc.is("not kept still", x.trace(1, 4), 2);
        for (int n = 1; n <= 30; n++) {
            x.report(2, n, n % 3, 0, 0, SPAN, 0, 10);
        }
        one(x, 3);
        doc.is("as many as can be", x.drop(2), 30);
        doc.is("its neighbour's stay", x.spans(3), 1);
        for (int what = 0; what <= 4; what++) {
            doc.is("nothing is left, what " + what, x.trace(2, what), 0);
        }
    }

    private static void totalsThereOrDropped() {
        doc.by("TOTALS of a SERVICE and an ACT are of all SPANS that are there or were there when their TRACE was dropped");
        TracePost x = new TracePost();
        doc.is("none", x.total(5, 7, -1), 0);
        x.report(0, 1, 0, 5, 7, SPAN, 0, 1);
        doc.is("there", x.total(5, 7, -1), 1);
        x.report(0, 1, 0, 5, 7, SPAN, 0, 1);
        x.report(0, 1, 0, 5, 7, SPAN, 0, 2);
        doc.is("alike, and one that did not come", x.total(5, 7, -1), 1);
        x.report(0, 1, 0, 5, 7, SPAN, 0, 0);
        doc.is("one that came", x.total(5, 7, 0), 1);
        doc.is("in place of this", x.total(5, 7, 1), 0);
        x.report(0, 1, 0, 5, 6, SPAN, 0, 0);
        doc.is("in place of one of another act", x.total(5, 7, -1), 0);
        doc.is("of that act", x.total(5, 6, -1), 1);
        x.drop(0);
        doc.is("dropped", x.total(5, 6, -1), 1);
        x.report(0, 1, 0, 5, 6, SPAN, 0, 0);
        doc.is("dropped, and there again", x.total(5, 6, 0), 2);
        x.report(0, 1, 0, 4, 6, SPAN, 0, 0);
        doc.is("the dropped one stays in it", x.total(5, 6, 0), 1);
        x.close(0);
        x.report(0, 2, 0, 4, 6, SPAN, 0, 0);
        doc.is("one that was late is not in it", x.total(4, 6, -1), 1);
        x.report(1, 1, 1, 4, 6, SPAN, 0, 0);
        doc.is("a lost one is", x.total(4, 6, -1), 2);
        x.drop(1);
        x.drop(0);
        doc.is("dropped", x.total(4, 6, -1), 2);
    }

    private static void steps() {
        doc.by("0: END less BEGIN is 0; j: it is 2^(j - 1) .. 2^j - 1.");
        for (int j = 1; j <= 30; j++) {
            long least = 1L << (j - 1);
            long greatest = Math.min((1L << j) - 1, LAST);
            stepIs(least - 1, j - 1);
            stepIs(least, j);
            stepIs(greatest, j);
            if (greatest < LAST) {
                stepIs(greatest + 1, j + 1);
            }
        }
        stepIs(0, 0);
        stepIs(1, 1);
        stepIs(LAST, 30);
    }

    private static void stepIs(long length, int due) {
        for (long begin : new long[] {0, LAST - length}) {
            TracePost x = new TracePost();
            x.report(0, 1, 0, 3, 4, SPAN, begin, begin + length);
            for (int step = 0; step <= 30; step++) {
                doc.is("length " + length + ", step " + step, x.total(3, 4, step), step == due ? 1 : 0);
            }
            doc.is("percent of length " + length, x.percent(3, 4, 1), due);
        }
    }

    private static TracePost leastAndGreatestPlaces() {
        TracePost x = new TracePost();
        x.report(0, 1, 0, 0, 0, SPAN, 0, 0);
        x.report(0, 2, 0, 5, 7, SPAN + FAILED, 0, LAST);
        return x;
    }

    private static void totalLimits() {
        doc.by("TOTALS: step -1: how many; -2: how many FAILED; 0 .. 30: in that STEP. NONE.");
        TracePost x = leastAndGreatestPlaces();
        doc.ints("step", -2, 30, NONE, v -> x.total(5, 7, v));
        doc.ints("service", 0, 5, NONE, v -> x.total(v, 0, 0));
        doc.ints("act", 0, 7, NONE, v -> x.total(0, v, 0));
        doc.is("the first", x.total(0, 0, -1), 1);
        doc.is("the first, step 0", x.total(0, 0, 0), 1);
        doc.is("the first has not failed", x.total(0, 0, -2), 0);
        doc.is("the last", x.total(5, 7, -1), 1);
        doc.is("the last, step 30", x.total(5, 7, 30), 1);
        doc.is("the last has failed", x.total(5, 7, -2), 1);
        doc.is("the last, step 0", x.total(5, 7, 0), 0);
        int all = 0;
        for (int service = 0; service < 6; service++) {
            for (int act = 0; act < 8; act++) {
                all += x.total(service, act, -1);
            }
        }
        doc.is("no others", all, 2);
    }

    private static void percentJust() {
        doc.by("The least STEP up to which, from 0 on, p percent or more of the TOTALS' SPANS are.");
        // So many spans of no length, then as many of length 1 that there are size in all.
        for (int size = 1; size <= 30; size++) {
            for (int low = 0; low <= size; low += 1 + size / 4) {
                TracePost x = new TracePost();
                for (int n = 1; n <= size; n++) {
                    x.report(0, n, 0, 2, 2, SPAN, 7, n <= low ? 7 : 8);
                }
                for (int p = 1; p <= 100; p++) {
                    doc.is(low + " of " + size + ", p " + p, x.percent(2, 2, p), low * 100 >= p * size ? 0 : 1);
                }
            }
        }
        TracePost x = new TracePost();
        for (int n = 1; n <= 100; n++) {
            x.report(n / 25, n, 0, 0, 0, SPAN, 0, n == 100 ? LAST : n > 50 ? 4 : 0);
        }
        doc.is("50 of 100", x.percent(0, 0, 50), 0);
        doc.is("51 of 100", x.percent(0, 0, 51), 3);
        doc.is("99 of 100", x.percent(0, 0, 99), 3);
        doc.is("all", x.percent(0, 0, 100), 30);
    }

    private static void percentLimits() {
        doc.by("NONE: there are none, too; BAD: p not 1 .. 100.");
        TracePost x = leastAndGreatestPlaces();
        doc.ints("p", 1, 100, BAD, p -> x.percent(5, 7, p));
        for (int p : new int[] {MIN, -1, 0, 1, 50, 100, 101, MAX}) {
            doc.is("there are none, p " + p, x.percent(1, 1, p), NONE);
            for (int off : new int[] {-1, 6, MIN, MAX}) {
                doc.is("no such service, p " + p, x.percent(off, 0, p), NONE);
            }
            for (int off : new int[] {-1, 8, MIN, MAX}) {
                doc.is("no such act, p " + p, x.percent(0, off, p), NONE);
            }
        }
        doc.is("the least place", x.percent(0, 0, 100), 0);
        doc.is("the greatest place", x.percent(5, 7, 1), 30);
        x.drop(0);
        doc.is("dropped ones are some", x.percent(5, 7, 100), 30);
        TracePost y = new TracePost();
        y.report(0, 1, 0, 1, 1, SPAN, 0, 0);
        y.report(0, 1, 0, 0, 1, SPAN, 0, 0);
        doc.is("there are none any more", y.percent(1, 1, 50), NONE);
    }

    private static void flowOfServes() {
        doc.by("ASKS of SERVICE x that are there: what 0 those that are PARENT of a SERVE of SERVICE y (PLACED or not)");
        TracePost x = new TracePost();
        x.report(0, 1, 0, 0, 0, ASK, 0, 9);
        doc.is("no serve", x.flow(0, 5, 0), 0);
        x.report(0, 2, 1, 5, 0, SERVE, 0, 9);
        doc.is("one", x.flow(0, 5, 0), 1);
        x.report(0, 3, 1, 5, 0, SERVE, 0, 9);
        doc.is("two serves, one ask", x.flow(0, 5, 0), 1);
        x.report(0, 4, 1, 4, 0, SERVE, 0, 9);
        doc.is("of another service", x.flow(0, 4, 0), 1);
        doc.is("not the other way", x.flow(5, 0, 0), 0);
        x.report(1, 1, 2, 0, 0, ASK, 0, 9);
        x.report(1, 2, 1, 5, 0, SERVE, 0, 9);
        doc.is("lost", x.flow(0, 5, 0), 2);
        x.report(19, 7, 900, 0, 0, ASK, 0, 9);
        x.report(19, 8, 7, 5, 0, SERVE, 0, 9);
        doc.is("below a hole, in the last trace", x.flow(0, 5, 0), 3);
        x.report(2, 1, 0, 0, 0, POST, 0, 9);
        x.report(2, 2, 1, 5, 0, SERVE, 0, 9);
        x.report(2, 3, 0, 0, 0, ASK, 0, 9);
        x.report(2, 4, 3, 5, 0, TAKE, 0, 9);
        doc.is("no ask, no serve", x.flow(0, 5, 0), 3);
        x.report(3, 1, 0, 3, 0, ASK, 0, 9);
        x.report(3, 2, 1, 3, 0, SERVE, 0, 9);
        doc.is("x and y alike: no pair, but counted", x.flow(3, 3, 0), 1);
        x.close(0);
        doc.is("closed ones are there", x.flow(0, 5, 0), 3);
        x.drop(0);
        doc.is("dropped ones are not", x.flow(0, 5, 0), 2);
    }

    private static void flowOfFailed() {
        doc.by("1 those of these that are FAILED, or a SERVE of which is (of y)");
        TracePost x = new TracePost();
        x.report(0, 1, 0, 0, 0, ASK, 0, 9);
        x.report(0, 2, 1, 1, 0, SERVE, 0, 9);
        doc.is("none failed", x.flow(0, 1, 1), 0);
        x.report(0, 3, 1, 2, 0, SERVE + FAILED, 0, 9);
        doc.is("a serve of another service failed", x.flow(0, 1, 1), 0);
        doc.is("of that service", x.flow(0, 2, 1), 1);
        x.report(0, 4, 1, 1, 0, SPAN + FAILED, 0, 9);
        doc.is("one that is no serve failed", x.flow(0, 1, 1), 0);
        x.report(0, 5, 1, 1, 0, SERVE + FAILED, 0, 9);
        doc.is("one of two serves failed", x.flow(0, 1, 1), 1);
        x.report(1, 1, 0, 0, 0, ASK + FAILED, 0, 9);
        doc.is("the ask failed, without a serve", x.flow(0, 1, 1), 1);
        x.report(1, 2, 1, 1, 0, SERVE, 0, 9);
        doc.is("the ask failed", x.flow(0, 1, 1), 2);
        x.report(1, 3, 1, 1, 0, SERVE + FAILED, 0, 9);
        doc.is("both: counted once", x.flow(0, 1, 1), 2);
        doc.is("the other way", x.flow(1, 0, 1), 0);
    }

    private static void flowWithout() {
        doc.by("2 those without any SERVE (y does not count, but must be one)");
        TracePost x = new TracePost();
        doc.is("no asks", x.flow(0, 0, 2), 0);
        x.report(0, 1, 0, 0, 0, ASK, 0, 9);
        for (int y = 0; y < 6; y++) {
            doc.is("y does not count, " + y, x.flow(0, y, 2), 1);
            doc.is("of x alone", x.flow(1, y, 2), 0);
        }
        for (int y : new int[] {-1, 6, MIN, MAX}) {
            doc.is("y must be one, " + y, x.flow(0, y, 2), NONE);
        }
        x.report(0, 2, 1, 1, 0, TAKE, 0, 9);
        x.report(0, 3, 0, 1, 0, SERVE, 0, 9);
        doc.is("a take of it, a serve of none", x.flow(0, 1, 2), 1);
        x.report(1, 2, 1, 1, 0, SERVE, 0, 9);
        doc.is("a serve in another trace", x.flow(0, 1, 2), 1);
        x.report(0, 4, 1, 0, 0, SERVE, 0, 9);
        doc.is("a serve of its own service", x.flow(0, 1, 2), 0);
    }

    private static void flowLimits() {
        doc.by("(y does not count, but must be one). NONE.");
        doc.ints("x", 0, 5, NONE, v -> new TracePost().flow(v, 0, 0));
        doc.ints("y", 0, 5, NONE, v -> new TracePost().flow(0, v, 0));
        doc.ints("y of what 1", 0, 5, NONE, v -> new TracePost().flow(0, v, 1));
        doc.ints("what", 0, 2, NONE, v -> new TracePost().flow(0, 1, v));
    }

    private static void counts() {
        doc.by("10 SERVICES that are tried. NONE.");
        doc.ints("what", 0, 10, NONE, v -> new TracePost().count(v));
        doc.by("1 reports that were alike, 2 those of which a lesser one stayed or came");
        TracePost x = new TracePost();
        one(x, 0);
        doc.is("new", x.count(1) + x.count(2), 0);
        one(x, 0);
        doc.is("alike", x.count(1), 1);
        one(x, 0, 0, 0, 0, 11);
        doc.is("a lesser one stayed", x.count(2), 1);
        one(x, 0, 0, 0, 0, 9);
        doc.is("a lesser one came", x.count(2), 2);
        doc.is("alike ones as before", x.count(1), 1);
        doc.by("0 SPANS that are there");
        doc.is("one", x.count(0), 1);
        doc.by("3 SPANS that were dropped");
        doc.is("none, though one came in place of another", x.count(3), 0);
        x.drop(0);
        doc.is("one", x.count(3), 1);
        doc.is("none is there", x.count(0), 0);
        x.drop(0);
        doc.is("no more", x.count(3), 1);
        doc.by("6 1 if all AGREE, else 0, 7 KEPT TRACES, 8 MISSED ones, 9 CLOSED ones");
        doc.is("agree", x.count(6), 1);
        x.report(1, 1, 0, 0, 0, ASK, 5, 9);
        x.report(1, 2, 1, 1, 0, SERVE, 5, 10);
        doc.is("do not agree", x.count(6), 0);
        x.quota(0);
        x.close(1);
        doc.is("closed", x.count(9), 1);
        doc.is("missed", x.count(8), 1);
        doc.is("kept", x.count(7), 0);
    }
}
