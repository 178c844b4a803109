import java.util.ArrayList;
import java.util.List;
import java.util.function.ToLongFunction;

/** Terms, part 5: which refusal it is, and that a refused call changes nothing but count(4). */
public final class RefusalsTest {
    private static final long NO = TracePost.NO;
    private static final int NONE = TracePost.NONE, BAD = TracePost.BAD, STATE = TracePost.STATE, FULL = TracePost.FULL;
    private static final int SPAN = 0, ASK = 1, SERVE = 2, POST = 3, TAKE = 4, FAILED = 8;
    private static final int MIN = Integer.MIN_VALUE, MAX = Integer.MAX_VALUE;
    private static final long LAST = 1000000000L, MOST = 10000000000L;

    private static final Quotes doc = new Quotes("refusals");

    private record Call(String name, long refusal, ToLongFunction<TracePost> made) { }

    private static final List<Call> refused = new ArrayList<>();

    public static void main(String[] args) {
        theFirstOfSeveral();
        doc.by("They change nothing but count(4).");
        badReports();
        lateAndFullReports();
        refusedBySpan();
        refusedByClock();
        refusedByTrace();
        refusedByNumber();
        for (Call c : refused) {
            changesNothing(c);
        }
        putOfThoseThatDoNotAgree();
        allInARow();
        doc.end();
    }

    private static void add(String name, long refusal, ToLongFunction<TracePost> made) {
        refused.add(new Call(name, refusal, made));
    }

    /**
     * 0 is full; 1 has pairs that agree, and a way that was told; 2 and 3 are closed, kept and not; 4 is lost; 5 is closed
     * and dropped; 6 has a hole. Two services are tried, clocks are put, quota and slow are set.
     */
    private static TracePost rich() {
        TracePost x = new TracePost();
        for (int n = 1; n <= 30; n++) {
            x.report(0, n, n / 2, n % 6, n % 8, n % 5 == 0 ? SPAN + FAILED : SPAN, n, 100 + n);
        }
        x.report(1, 1, 0, 0, 0, ASK, 100, 200);
        x.report(1, 2, 1, 1, 1, SERVE, 1120, 1180);
        x.report(1, 3, 2, 1, 2, POST, 1130, 1140);
        x.report(1, 4, 3, 2, 3, TAKE, 40, 60);
        x.report(1, 4, 3, 2, 3, TAKE, 40, 60);
        x.report(1, 4, 3, 2, 3, TAKE, 39, 60);
        x.put();
        x.way(1, 0);
        x.slow(2, 40);
        for (int t = 2; t <= 3; t++) {
            x.report(t, 1, 0, 0, 0, SPAN, 0, 10);
            x.report(t, 2, 1, 1, 0, SPAN, 1, 5);
            x.close(t);
        }
        x.report(4, 1, 2, 0, 0, SPAN + FAILED, 0, 10);
        x.report(4, 2, 1, 0, 0, SPAN, 0, 10);
        x.report(5, 1, 0, 3, 3, SPAN + FAILED, 0, 10);
        x.close(5);
        x.drop(5);
        x.report(6, 1, 900, 0, 0, SPAN, 0, 10);
        x.quota(3);
        x.attempt(1, -1000);
        x.attempt(4, 7);
        return x;
    }

    private static void changesNothing(Call c) {
        List<String> before = Snapshot.of(rich());
        TracePost x = rich();
        doc.is(c.name(), c.made().applyAsLong(x), c.refusal());
        List<String> other = Snapshot.differences(before, Snapshot.of(x));
        List<String> want = c.refusal() == STATE && c.name().startsWith("report") ? List.of("count(4) = 0 / count(4) = 1") : List.of();
        doc.is(c.name() + " leaves another: " + other, other.equals(want) ? 1 : 0, 1);
    }

    private static void allInARow() {
        TracePost x = rich();
        for (Call c : refused) {
            doc.is(c.name() + ", all in a row", c.made().applyAsLong(x), c.refusal());
        }
        List<String> other = Snapshot.differences(Snapshot.of(rich()), Snapshot.of(x));
        doc.is("all in a row leave another: " + other, other.size() == 1 && other.get(0).startsWith("count(4) = 0") ? 1 : 0, 1);
    }

    /** Closed with 30 spans, and 200 in all. */
    private static TracePost fullAndClosed() {
        TracePost x = new TracePost();
        for (int t = 0; t < 6; t++) {
            for (int n = 1; n <= 30; n++) {
                x.report(t, n, 0, 0, 0, SPAN, 0, 1);
            }
        }
        for (int n = 1; n <= 20; n++) {
            x.report(6, n, 0, 0, 0, SPAN, 0, 1);
        }
        x.close(5);
        return x;
    }

    private static void theFirstOfSeveral() {
        doc.by("REFUSALS, of several the first one told here: NONE there is no such TRACE, SPAN, SERVICE, ACT, number;"
            + " BAD a number is not as told; STATE as told; FULL.");
        TracePost x = fullAndClosed();
        doc.is("bad, state and full", x.report(5, 31, 0, 6, 0, SPAN, 0, 1), BAD);
        doc.is("bad and state", x.report(5, 30, 0, 6, 0, SPAN, 0, 1), BAD);
        doc.is("bad and full", x.report(0, 31, 0, 6, 0, SPAN, 0, 1), BAD);
        doc.is("bad and all full", x.report(7, 1, 0, 0, 8, SPAN, 0, 1), BAD);
        doc.is("no late one up to here", x.count(4), 0);
        doc.is("state and full", x.report(5, 31, 0, 0, 0, SPAN, 0, 1), STATE);
        doc.is("state", x.report(5, 30, 0, 0, 0, SPAN, 0, 1), STATE);
        doc.is("full", x.report(0, 31, 0, 0, 0, SPAN, 0, 1), FULL);
        doc.is("all full", x.report(7, 1, 0, 0, 0, SPAN, 0, 1), FULL);
        doc.is("two late ones", x.count(4), 2);
        doc.is("attempt: none and bad", x.attempt(6, MOST + 1), NONE);
        doc.is("attempt: bad", x.attempt(5, MOST + 1), BAD);
        doc.is("slow: none and bad", x.slow(8, -1), NONE);
        doc.is("slow: bad", x.slow(7, -1), BAD);
        doc.is("percent: none and bad", x.percent(0, 1, 0), NONE);
        doc.is("percent: bad", x.percent(0, 0, 0), BAD);
        doc.is("close: none, no state of it", x.close(20), NONE);
        doc.is("close: state", x.close(5), STATE);
        x.drop(5);
        doc.is("close: state, for two causes", x.close(5), STATE);
        x.report(7, 1, 1, 0, 0, SPAN, 0, 1);
        doc.is("span: none, though lost", x.span(7, 1, 9), NONE);
        doc.is("span: bad", x.span(7, 1, 6), BAD);
        doc.is("span: bad", x.span(7, 1, 7), BAD);
    }

    private static void badReports() {
        for (int v : new int[] {-1, 20, MIN, MAX}) {
            add("report, trace " + v, BAD, x -> x.report(v, 1, 0, 0, 0, SPAN, 0, 1));
        }
        for (int v : new int[] {-1, 0, 1000, MIN, MAX}) {
            add("report, number " + v, BAD, x -> x.report(7, v, 0, 0, 0, SPAN, 0, 1));
        }
        for (int v : new int[] {-1, 1000, MIN, MAX}) {
            add("report, parent " + v, BAD, x -> x.report(7, 1, v, 0, 0, SPAN, 0, 1));
        }
        for (int v : new int[] {-1, 6, MIN, MAX}) {
            add("report, service " + v, BAD, x -> x.report(7, 1, 0, v, 0, SPAN, 0, 1));
        }
        for (int v : new int[] {-1, 8, MIN, MAX}) {
            add("report, act " + v, BAD, x -> x.report(7, 1, 0, 0, v, SPAN, 0, 1));
        }
        for (int v : new int[] {-8, -1, 5, 7, 13, 16, MIN, MAX}) {
            add("report, kind " + v, BAD, x -> x.report(7, 1, 0, 0, 0, v, 0, 1));
        }
        long[][] times = {{-1, 0}, {-1, -1}, {1, 0}, {LAST, LAST + 1}, {LAST + 1, LAST + 1}, {Long.MIN_VALUE, 1}, {0, Long.MAX_VALUE},
            {Long.MIN_VALUE, Long.MAX_VALUE}, {Long.MAX_VALUE, Long.MIN_VALUE}};
        for (long[] v : times) {
            add("report, times " + v[0] + " " + v[1], BAD, x -> x.report(7, 1, 0, 0, 0, SPAN, v[0], v[1]));
            add("report of one that is there, times " + v[0] + " " + v[1], BAD, x -> x.report(1, 1, 0, 0, 0, ASK, v[0], v[1]));
        }
    }

    private static void lateAndFullReports() {
        add("report to a kept one, new", STATE, x -> x.report(2, 3, 0, 0, 0, SPAN, 0, 1));
        add("report to a kept one, alike", STATE, x -> x.report(2, 1, 0, 0, 0, SPAN, 0, 10));
        add("report to a kept one, less", STATE, x -> x.report(2, 2, 0, 0, 0, SPAN, 0, 1));
        add("report to one that is not kept, failed", STATE, x -> x.report(3, 2, 1, 1, 0, SPAN + FAILED, 1, 5));
        add("report to one that was dropped", STATE, x -> x.report(5, 1, 0, 3, 3, SPAN + FAILED, 0, 10));
        add("bad report to a closed one", BAD, x -> x.report(2, 3, 0, 0, 0, SPAN, 1, 0));
        add("full", FULL, x -> x.report(0, 31, 0, 0, 0, SPAN, 0, 1));
        add("full, a pair's kid", FULL, x -> x.report(0, 999, 1, 5, 7, SERVE + FAILED, 0, LAST));
    }

    private static void refusedBySpan() {
        for (int v : new int[] {-1, 20, MIN, MAX}) {
            add("spans, trace " + v, NONE, x -> x.spans(v));
            add("span, trace " + v, NONE, x -> x.span(v, 1, 0));
            add("kid, trace " + v, NONE, x -> x.kid(v, 1, 0));
            add("root, trace " + v, NONE, x -> x.root(v, 0));
            add("trace, trace " + v, NONE, x -> x.trace(v, 0));
            add("time, trace " + v, NO, x -> x.time(v, 1, false, false));
        }
        for (int v : new int[] {-1, 0, 31, 999, 1000, MIN, MAX}) {
            add("span, number " + v, NONE, x -> x.span(0, v, 0));
            add("kid, number " + v, NONE, x -> x.kid(0, v, 0));
            add("time, number " + v, NO, x -> x.time(0, v, true, true));
            add("share, number " + v, NO, x -> x.share(0, v));
        }
        for (int v : new int[] {-1, 9, MIN, MAX}) {
            add("span, what " + v, NONE, x -> x.span(0, 1, v));
            add("span of a lost one, what " + v, NONE, x -> x.span(4, 1, v));
            add("trace, what " + v, NONE, x -> x.trace(0, v));
        }
        add("trace, what 5", NONE, x -> x.trace(0, 5));
        for (int v : new int[] {-1, 2, MIN, MAX}) {
            add("kid, i " + v, NONE, x -> x.kid(0, 1, v));
        }
        for (int v : new int[] {-1, 1, MIN, MAX}) {
            add("root, i " + v, NONE, x -> x.root(1, v));
            add("way, i " + v, NONE, x -> x.way(1, v));
        }
        add("depth of a lost one", BAD, x -> x.span(4, 1, 6));
        add("root of a lost one", BAD, x -> x.span(4, 1, 7));
        add("share of a lost one", NO, x -> x.share(4, 1));
        add("root of lost ones", NONE, x -> x.root(4, 0));
    }

    private static void refusedByClock() {
        for (int v : new int[] {-1, 6, MIN, MAX}) {
            add("bound, x " + v, NO, x -> x.bound(v, 0));
            add("bound, y " + v, NO, x -> x.bound(0, v));
            add("skew, x " + v, NO, x -> x.skew(v, 0, 1));
            add("skew, y " + v, NO, x -> x.skew(0, v, 1));
            add("moved " + v, NO, x -> x.moved(v));
            add("attempt, service " + v, NONE, x -> x.attempt(v, 1));
            add("attempt, service " + v + ", and v off", NONE, x -> x.attempt(v, Long.MAX_VALUE));
            add("flow, x " + v, NONE, x -> x.flow(v, 0, 0));
            add("flow, y " + v, NONE, x -> x.flow(0, v, 2));
        }
        for (int v : new int[] {-1, 2, MIN, MAX}) {
            add("skew, what " + v, NO, x -> x.skew(0, 1, v));
        }
        for (int v : new int[] {-1, 0, 5, MIN, MAX}) {
            add("ring, they agree " + v, NONE, x -> x.ring(v));
        }
        for (long v : new long[] {-MOST - 1, MOST + 1, Long.MIN_VALUE, Long.MAX_VALUE}) {
            add("attempt, of one that is tried, v " + v, BAD, x -> x.attempt(1, v));
            add("attempt, of one that is not, v " + v, BAD, x -> x.attempt(2, v));
        }
    }

    private static void refusedByTrace() {
        for (int v : new int[] {-1, 20, MIN, MAX}) {
            add("way, trace " + v, NONE, x -> x.way(v, 0));
            add("share, trace " + v, NO, x -> x.share(v, 1));
            add("close, trace " + v, NONE, x -> x.close(v));
            add("stands, trace " + v, NONE, x -> x.stands(v));
            add("drop, trace " + v, NONE, x -> x.drop(v));
        }
        add("close of a kept one", STATE, x -> x.close(2));
        add("close of one that is not kept", STATE, x -> x.close(3));
        add("close of lost ones", STATE, x -> x.close(4));
        add("close of a dropped one", STATE, x -> x.close(5));
        add("close of an empty one", STATE, x -> x.close(19));
        add("way of lost ones", NONE, x -> x.way(4, 0));
        add("way of a dropped one", NONE, x -> x.way(5, 0));
        add("stands of an open one", NONE, x -> x.stands(0));
        add("stands of one that is not kept", NONE, x -> x.stands(3));
    }

    private static void refusedByNumber() {
        for (int v : new int[] {-1, 59, 60, 61, MIN, MAX}) {
            add("part, i " + v, NO, x -> x.part(v, 0));
        }
        for (int v : new int[] {-1, 3, MIN, MAX}) {
            add("part, what " + v, NO, x -> x.part(0, v));
            add("flow, what " + v, NONE, x -> x.flow(0, 1, v));
        }
        for (int v : new int[] {-1, 8, MIN, MAX}) {
            add("slow, act " + v, NONE, x -> x.slow(v, 5));
            add("slow, act " + v + ", and ticks off", NONE, x -> x.slow(v, -5));
            add("total, act " + v, NONE, x -> x.total(0, v, 0));
            add("percent, act " + v, NONE, x -> x.percent(0, v, 50));
        }
        for (int v : new int[] {-1, 6, MIN, MAX}) {
            add("total, service " + v, NONE, x -> x.total(v, 0, 0));
            add("percent, service " + v, NONE, x -> x.percent(v, 0, 50));
        }
        for (int v : new int[] {-1, 1000000001, MIN, MAX}) {
            add("slow, ticks " + v, BAD, x -> x.slow(2, v));
        }
        for (int v : new int[] {-1, 21, MIN, MAX}) {
            add("quota " + v, BAD, x -> x.quota(v));
            add("kept " + v, NONE, x -> x.kept(v));
        }
        add("kept 2", NONE, x -> x.kept(2));
        for (int v : new int[] {-3, 31, MIN, MAX}) {
            add("total, step " + v, NONE, x -> x.total(0, 0, v));
        }
        for (int v : new int[] {-1, 0, 101, MIN, MAX}) {
            add("percent, p " + v, BAD, x -> x.percent(0, 0, v));
            add("percent of none, p " + v, NONE, x -> x.percent(5, 0, v));
        }
        for (int v : new int[] {-1, 11, MIN, MAX}) {
            add("count " + v, NONE, x -> x.count(v));
        }
    }

    private static TracePost richThatDoesNotAgree() {
        TracePost x = rich();
        x.report(8, 1, 0, 1, 0, POST, 0, LAST);
        x.report(8, 2, 1, 0, 0, TAKE, 0, LAST);
        return x;
    }

    private static void putOfThoseThatDoNotAgree() {
        TracePost x = richThatDoesNotAgree();
        doc.is("put", x.put(), STATE);
        doc.is("skew", x.skew(0, 1, 0), NO);
        doc.is("ring", x.ring(2), NONE);
        List<String> other = Snapshot.differences(Snapshot.of(richThatDoesNotAgree()), Snapshot.of(x));
        doc.is("leave another: " + other, other.size(), 0);
    }
}
