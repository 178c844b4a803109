import java.util.List;

/** The boundaries of Terms, part 1, and of promises 1 to 8: what a report may hold, and trees with holes. */
public final class SpansEdgeTest {
    private static final long NO = TracePost.NO;
    private static final int NONE = TracePost.NONE, BAD = TracePost.BAD, STATE = TracePost.STATE, FULL = TracePost.FULL;
    private static final int SPAN = 0, ASK = 1, SERVE = 2, POST = 3, TAKE = 4, FAILED = 8;
    private static final long LAST = 1000000000L;
    /** Which of report's eight numbers. */
    private static final int TRACE = 0, NUMBER = 1, PARENT = 2, SERVICE = 3, ACT = 4, KIND = 5, BEGIN = 6, END = 7;

    private static final Quotes doc = new Quotes("edges of spans");

    public static void main(String[] args) {
        servicesActsTraces();
        numbers();
        parents();
        kinds();
        times();
        thirtyInATrace();
        twoHundredInAll();
        fullOnlyIfOneMore();
        alike();
        theLess();
        failedIsGreater();
        holes();
        placedAndDepth();
        lost();
        kidsArePlaced();
        orderOfKidsAndRoots();
        aNewObject();
        reportAnswers();
        reportToClosed();
        spansOfATrace();
        whatOfASpan();
        kidFrom0On();
        rootFrom0On();
        whatOfATrace();
        timeOfASpan();
        doc.end();
    }

    private static int report(TracePost x, long[] n) {
        return x.report((int) n[TRACE], (int) n[NUMBER], (int) n[PARENT], (int) n[SERVICE], (int) n[ACT], (int) n[KIND], n[BEGIN], n[END]);
    }

    /** A new object's answer to a report that is fine but perhaps for one of its numbers. */
    private static int reportWith(int which, long value) {
        long[] n = {0, 1, 0, 0, 0, SPAN, 0, LAST};
        n[which] = value;
        return report(new TracePost(), n);
    }

    /** Each trace has a failed root 1 and its kid 2. */
    private static TracePost everyTrace() {
        TracePost x = new TracePost();
        for (int t = 0; t < 20; t++) {
            x.report(t, 1, 0, 0, 0, SPAN + FAILED, 0, 10);
            x.report(t, 2, 1, 0, 0, SPAN, 0, 10);
        }
        return x;
    }

    private static TracePost everyTraceClosed() {
        TracePost x = everyTrace();
        for (int t = 0; t < 20; t++) {
            x.close(t);
        }
        return x;
    }

    private static void servicesActsTraces() {
        doc.by("SERVICES 0 ..");
        doc.ints("report's service", 0, 5, BAD, v -> reportWith(SERVICE, v));
        doc.by("5, ACTS 0 .. 7, TRACES 0 .. 19.");
        doc.ints("report's act", 0, 7, BAD, v -> reportWith(ACT, v));
        doc.ints("report's trace", 0, 19, BAD, v -> reportWith(TRACE, v));
        doc.ints("spans' trace", 0, 19, NONE, v -> everyTrace().spans(v));
        doc.ints("span's trace", 0, 19, NONE, v -> everyTrace().span(v, 1, 8));
        doc.ints("kid's trace", 0, 19, NONE, v -> everyTrace().kid(v, 1, 0));
        doc.ints("root's trace", 0, 19, NONE, v -> everyTrace().root(v, 0));
        doc.ints("trace's trace", 0, 19, NONE, v -> everyTrace().trace(v, 0));
        doc.ints("time's trace", 0, 19, NO, v -> everyTrace().time(v, 1, true, true));
        doc.ints("way's trace", 0, 19, NONE, v -> everyTrace().way(v, 0));
        doc.ints("share's trace", 0, 19, NO, v -> everyTrace().share(v, 1));
        doc.ints("close's trace", 0, 19, NONE, v -> everyTrace().close(v));
        doc.ints("stands' trace", 0, 19, NONE, v -> everyTraceClosed().stands(v));
        doc.ints("drop's trace", 0, 19, NONE, v -> everyTrace().drop(v));
    }

    /** Roots 1 and 999, each with a kid. */
    private static TracePost leastAndGreatestNumber() {
        TracePost x = new TracePost();
        x.report(0, 1, 0, 0, 0, SPAN, 0, 10);
        x.report(0, 999, 0, 0, 0, SPAN, 0, 10);
        x.report(0, 2, 1, 0, 0, SPAN, 0, 10);
        x.report(0, 998, 999, 0, 0, SPAN, 0, 10);
        return x;
    }

    private static void numbers() {
        doc.by("a NUMBER 1 .. 999");
        doc.ints("report's number", 1, 999, BAD, v -> reportWith(NUMBER, v));
        doc.ints("span's number", 1, 999, NONE, v -> leastAndGreatestNumber().span(0, v, 8));
        doc.ints("kid's number", 1, 999, NONE, v -> leastAndGreatestNumber().kid(0, v, 0));
        doc.ints("time's number", 1, 999, NO, v -> leastAndGreatestNumber().time(0, v, false, false));
        doc.ints("share's number", 1, 999, NO, v -> leastAndGreatestNumber().share(0, v));
        doc.is("kid of the least", leastAndGreatestNumber().kid(0, 1, 0), 2);
        doc.is("kid of the greatest", leastAndGreatestNumber().kid(0, 999, 0), 998);
        doc.is("a number between that is not there", leastAndGreatestNumber().span(0, 500, 0), NONE);
    }

    private static void parents() {
        doc.by("a PARENT (a NUMBER, 0: none)");
        doc.ints("report's parent", 0, 999, BAD, v -> reportWith(PARENT, v));
        for (int parent : new int[] {0, 2, 999}) {
            TracePost x = new TracePost();
            doc.is("parent " + parent, x.report(0, 1, parent, 0, 0, SPAN, 0, 1), 1);
            doc.is("parent told", x.span(0, 1, 0), parent);
            doc.is("0 is no hole, a number is one", x.trace(0, 1), parent == 0 ? 0 : 1);
        }
    }

    private static void kinds() {
        doc.by("a KIND (0 SPAN, 1 ASK, 2 SERVE, 3 POST, 4 TAKE)");
        doc.ints("report's kind", 0, 12, BAD, v -> reportWith(KIND, v));
        for (int kind = -20; kind <= 40; kind++) {
            boolean plain = kind >= 0 && kind <= 4;
            boolean failed = kind >= 8 && kind <= 12;
            doc.is("kind " + kind, reportWith(KIND, kind), plain || failed ? 1 : BAD);
        }
        doc.by("A report (kind + 8: FAILED)");
        for (int kind = 0; kind <= 4; kind++) {
            TracePost x = new TracePost();
            x.report(0, 1, 0, 0, 0, kind, 0, 1);
            x.report(0, 2, 0, 0, 0, kind + 8, 0, 1);
            for (int n = 1; n <= 2; n++) {
                doc.is("kind " + kind + " of span " + n, x.span(0, n, 3), kind);
                doc.is("failed or not, span " + n, x.span(0, n, 4), n - 1);
            }
        }
    }

    private static int reportTimes(long begin, long end) {
        return new TracePost().report(0, 1, 0, 0, 0, SPAN, begin, end);
    }

    private static void times() {
        doc.by("BEGIN and END, 0 .. 10^9");
        doc.longs("begin, the end at 10^9", 0, LAST, BAD, v -> reportTimes(v, LAST));
        doc.longs("end, the begin at 0", 0, LAST, BAD, v -> reportTimes(0, v));
        doc.longs("begin and end alike", 0, LAST, BAD, v -> reportTimes(v, v));
        doc.is("from end to end", reportTimes(0, LAST), 1);
        doc.is("both one step off", reportTimes(-1, LAST + 1), BAD);
        doc.is("as far off as can be", reportTimes(Long.MIN_VALUE, Long.MAX_VALUE), BAD);
        doc.is("as far off as can be, turned round", reportTimes(Long.MAX_VALUE, Long.MIN_VALUE), BAD);
        doc.by("END not below BEGIN");
        for (long begin : new long[] {1, 500, LAST}) {
            doc.is("one below " + begin, reportTimes(begin, begin - 1), BAD);
            doc.is("alike " + begin, reportTimes(begin, begin), 1);
            doc.is("one above " + (begin - 1), reportTimes(begin - 1, begin), 1);
        }
        doc.is("as far below as can be", reportTimes(LAST, 0), BAD);
    }

    private static int plain(TracePost x, int trace, int number) {
        return x.report(trace, number, 0, 0, 0, SPAN, 5, 6);
    }

    /** Spans 1 .. n of a trace. */
    private static void fill(TracePost x, int trace, int n) {
        for (int number = 1; number <= n; number++) {
            doc.is("span " + number + " of trace " + trace, plain(x, trace, number), 1);
        }
    }

    private static void thirtyInATrace() {
        doc.by("A TRACE has at most 30 SPANS");
        for (int t : new int[] {0, 19}) {
            TracePost x = new TracePost();
            fill(x, t, 29);
            doc.is("29", x.spans(t), 29);
            doc.is("the 30th", plain(x, t, 999), 1);
            doc.is("30", x.spans(t), 30);
            doc.is("the 31st", plain(x, t, 998), FULL);
            doc.is("still 30", x.spans(t), 30);
            doc.is("it is not there", x.span(t, 998, 0), NONE);
            doc.is("another trace has room", plain(x, 10, 998), 1);
            doc.is("30 go", x.drop(t), 30);
            doc.is("room again", plain(x, t, 998), 1);
        }
    }

    private static void twoHundredInAll() {
        doc.by("all together at most 200.");
        TracePost x = new TracePost();
        for (int t = 0; t < 19; t++) {
            fill(x, t, 10);
        }
        fill(x, 19, 9);
        doc.is("199", x.count(0), 199);
        doc.is("the 200th", plain(x, 19, 10), 1);
        for (int t = 0; t < 20; t++) {
            doc.is("the 201st, in trace " + t, plain(x, t, 11), FULL);
        }
        doc.is("200", x.count(0), 200);
        doc.is("ten go", x.drop(3), 10);
        fill(x, 3, 9);
        doc.is("the 200th again, in another trace", plain(x, 4, 11), 1);
        doc.is("the 201st", plain(x, 3, 10), FULL);
        x.drop(5);
        doc.is("closed and then dropped ones give room too", x.close(6), 3);
        x.drop(6);
        doc.is("180", x.count(0), 180);
        fill(x, 5, 20);
        doc.is("the 201st", plain(x, 5, 21), FULL);
        TracePost y = new TracePost();
        for (int t = 0; t < 6; t++) {
            fill(y, t, 30);
        }
        fill(y, 6, 20);
        doc.is("the 201st in a trace of 20", plain(y, 6, 21), FULL);
        doc.is("the 201st in an empty one", plain(y, 7, 1), FULL);
        doc.is("the 201st in a full one", plain(y, 0, 31), FULL);
    }

    private static void fullOnlyIfOneMore() {
        doc.by("FULL (only if it would be one more).");
        TracePost x = new TracePost();
        fill(x, 0, 30);
        again(x, 0);
        for (int t = 1; t < 6; t++) {
            fill(x, t, 30);
        }
        fill(x, 6, 20);
        again(x, 6);
        again(x, 5);
        doc.is("200", x.count(0), 200);
        doc.is("alike ones", x.count(1), 3);
        doc.is("others", x.count(2), 6);
        doc.is("one more", plain(x, 6, 21), FULL);
        doc.is("full ones are not counted", x.count(1) + x.count(2), 9);
        doc.is("nor in the totals", x.total(0, 0, -1), 200);
    }

    private static void again(TracePost x, int trace) {
        doc.is("alike", plain(x, trace, 20), 0);
        doc.is("greater", x.report(trace, 20, 0, 0, 0, SPAN, 5, 7), 3);
        doc.is("less", x.report(trace, 20, 0, 0, 0, SPAN, 5, 5), 2);
    }

    private static void alike() {
        doc.by("if all is alike nothing happens");
        List<String> once = Snapshot.of(everyTrace());
        TracePost x = everyTrace();
        for (int t = 0; t < 20; t++) {
            doc.is("alike", x.report(t, 2, 1, 0, 0, SPAN, 0, 10), 0);
            doc.is("alike and failed", x.report(t, 1, 0, 0, 0, SPAN + FAILED, 0, 10), 0);
        }
        List<String> other = Snapshot.differences(once, Snapshot.of(x));
        doc.is("but count(1), nothing is other than it was: " + other, other.equals(List.of("count(1) = 0 / count(1) = 40")) ? 1 : 0, 1);
    }

    /** A span's parent, service, act, kind, failed, begin, end. */
    private static int tell(TracePost x, long[] n) {
        return x.report(0, 7, (int) n[0], (int) n[1], (int) n[2], (int) (n[3] + 8 * n[4]), n[5], n[6]);
    }

    private static void stays(TracePost x, long[] n) {
        for (int what = 0; what < 5; what++) {
            doc.is("what stays, " + what, x.span(0, 7, what), n[what]);
        }
        doc.is("begin that stays", x.time(0, 7, false, false), n[5]);
        doc.is("end that stays", x.time(0, 7, true, false), n[6]);
    }

    /** One step at one place, and all behind it as far the other way as it can be. */
    private static void theLess() {
        doc.by("by PARENT, SERVICE, ACT, KIND, FAILED (not ahead of FAILED), BEGIN, END, the first of these that differs.");
        long[] least = {0, 0, 0, 0, 0, 0, 500}, greatest = {999, 5, 7, 4, 1, 500, LAST};
        for (int place = 0; place < 7; place++) {
            long[] less = {500, 2, 3, 2, 0, 250, 700};
            long[] more = less.clone();
            more[place]++;
            oneStep("place " + place, less, more);
            for (int behind = place + 1; behind < 7; behind++) {
                less[behind] = greatest[behind];
                more[behind] = least[behind];
            }
            oneStep("place " + place + ", all behind it the other way", less, more);
        }
        long[] first = {0, 5, 7, 4, 1, LAST, LAST}, second = {999, 0, 0, 0, 0, 0, 0};
        oneStep("as far as can be", first, second);
    }

    private static void oneStep(String what, long[] less, long[] more) {
        TracePost x = new TracePost();
        doc.is(what + ": new", tell(x, less), 1);
        doc.is(what + ": the greater one", tell(x, more), 3);
        stays(x, less);
        doc.is(what + ": alike", tell(x, less), 0);
        TracePost y = new TracePost();
        doc.is(what + ": new", tell(y, more), 1);
        doc.is(what + ": alike", tell(y, more), 0);
        doc.is(what + ": the lesser one", tell(y, less), 2);
        stays(y, less);
        doc.is(what + ": one there", y.count(0), 1);
        doc.is(what + ": the greater one again", tell(y, more), 3);
        doc.is(what + ": counted", y.count(2), 2);
    }

    private static void failedIsGreater() {
        doc.by("FAILED (not ahead of FAILED)");
        for (int kind = 0; kind <= 4; kind++) {
            TracePost x = new TracePost();
            x.report(0, 1, 0, 0, 0, kind, 5, 9);
            doc.is("failed does not come, though it begins and ends ahead", x.report(0, 1, 0, 0, 0, kind + FAILED, 4, 8), 3);
            x.report(0, 2, 0, 0, 0, kind + FAILED, 5, 9);
            doc.is("not failed comes, though it begins and ends behind", x.report(0, 2, 0, 0, 0, kind, 6, 10), 2);
            doc.is("not failed", x.span(0, 2, 4), 0);
            if (kind < 4) {
                x.report(0, 3, 0, 0, 0, kind + 1, 5, 9);
                doc.is("a lesser kind goes ahead, failed or not", x.report(0, 3, 0, 0, 0, kind + FAILED, 5, 9), 2);
            }
        }
    }

    private static void holes() {
        doc.by("A SPAN of which the PARENT is not 0 and not there has a HOLE above it.");
        TracePost x = new TracePost();
        x.report(0, 1, 0, 0, 0, SPAN, 0, 9);
        doc.is("parent 0", x.span(0, 1, 5), 0);
        x.report(0, 2, 1, 0, 0, SPAN, 0, 9);
        doc.is("parent there", x.span(0, 2, 5), 0);
        x.report(0, 3, 4, 0, 0, SPAN, 0, 9);
        doc.is("parent not there", x.span(0, 3, 5), 1);
        x.report(1, 4, 0, 0, 0, SPAN, 0, 9);
        doc.is("parent there in another trace only", x.span(0, 3, 5), 1);
        x.report(0, 5, 5, 0, 0, SPAN, 0, 9);
        doc.is("its own parent", x.span(0, 5, 5), 0);
        x.report(0, 4, 0, 0, 0, SPAN, 0, 9);
        doc.is("the parent came", x.span(0, 3, 5), 0);
        x.report(0, 5, 4, 0, 0, SPAN, 0, 9);
        x.report(0, 4, 0, 0, 0, SPAN, 0, 8);
        doc.is("the parent is there in place of another one", x.span(0, 5, 5), 0);
        x.report(0, 6, 7, 0, 0, SPAN, 0, 9);
        x.report(0, 6, 0, 0, 0, SPAN, 0, 9);
        doc.is("in place of one below a hole: none", x.span(0, 6, 5), 0);
        x.drop(0);
        x.report(0, 2, 1, 0, 0, SPAN, 0, 9);
        doc.is("the parent was dropped", x.span(0, 2, 5), 1);
    }

    /** Span n below n - 1, from the first one on to the last. */
    private static TracePost chain(int first, int last, int parentOfFirst) {
        TracePost x = new TracePost();
        for (int n = first; n <= last; n++) {
            x.report(0, n, n == first ? parentOfFirst : n - 1, 0, 0, SPAN, 0, 100);
        }
        return x;
    }

    private static void placedAndDepth() {
        doc.by("that is its ROOT (perhaps itself).");
        for (int top : new int[] {0, 999}) {
            TracePost x = chain(1, 30, top);
            doc.is("itself, parent " + top, x.span(0, 1, 7), 1);
            doc.is("one step up", x.span(0, 2, 7), 1);
            doc.is("29 steps up", x.span(0, 30, 7), 1);
            doc.is("one root", x.trace(0, 0), 1);
        }
        doc.by("DEPTH: how many steps that are.");
        for (int top : new int[] {0, 999}) {
            TracePost x = chain(1, 30, top);
            for (int n = 1; n <= 30; n++) {
                doc.is("depth of " + n + ", parent " + top, x.span(0, n, 6), n - 1);
            }
        }
    }

    private static void lost() {
        doc.by("(Others go round: they are LOST.)");
        for (int size = 1; size <= 30; size++) {
            TracePost x = chain(1, size, size);
            doc.is("a round of " + size, x.trace(0, 2), size);
            doc.is("depth of its first", x.span(0, 1, 6), BAD);
            doc.is("root of its last", x.span(0, size, 7), BAD);
            doc.is("no roots", x.trace(0, 0), 0);
            doc.is("no holes", x.trace(0, 1), 0);
        }
        TracePost x = chain(1, 30, 15);
        doc.is("a round of 15 and 15 below it", x.trace(0, 2), 30);
        doc.is("the lowest", x.span(0, 30, 6), BAD);
        x.report(0, 1, 0, 0, 0, SPAN, 0, 100);
        doc.is("the round is broken", x.trace(0, 2), 0);
        doc.is("the lowest", x.span(0, 30, 6), 29);
        TracePost y = chain(2, 30, 1);
        doc.is("below a hole they are placed", y.trace(0, 2), 0);
        y.report(0, 1, 30, 0, 0, SPAN, 0, 100);
        doc.is("what came in the hole closes a round", y.trace(0, 2), 30);
        doc.is("asked at once: none of these is a root", chain(1, 30, 30).trace(0, 0), 0);
        doc.is("asked at once: one of these is a root", chain(1, 30, 0).trace(0, 0), 1);
        TracePost z = chain(1, 3, 3);
        z.report(0, 4, 0, 0, 0, SPAN, 0, 1);
        z.report(0, 5, 4, 0, 0, SPAN, 0, 1);
        z.report(0, 6, 9, 0, 0, SPAN, 0, 1);
        doc.is("lost and placed ones in one trace", z.trace(0, 2), 3);
        doc.is("roots", z.trace(0, 0), 2);
    }

    private static void kidsArePlaced() {
        doc.by("KIDS of a SPAN are the PLACED ones of which it is the PARENT");
        TracePost x = chain(1, 3, 2);
        doc.is("1 and 2 go round, 3 is below: none is a kid", x.span(0, 2, 8), 0);
        doc.is("none", x.kid(0, 2, 0), NONE);
        doc.is("none of itself", chain(5, 5, 5).span(0, 5, 8), 0);
        x.report(0, 1, 0, 0, 0, SPAN, 0, 100);
        doc.is("placed now", x.span(0, 2, 8), 1);
        doc.is("placed now", x.kid(0, 2, 0), 3);
        TracePost y = new TracePost();
        for (int n = 2; n <= 30; n++) {
            y.report(0, n, 1, 0, 0, SPAN, 0, 1);
        }
        doc.is("a hole has no kids", y.span(0, 1, 8), NONE);
        doc.is("they are roots", y.trace(0, 0), 29);
        y.report(0, 1, 0, 0, 0, SPAN, 0, 1);
        doc.is("as many as can be", y.span(0, 1, 8), 29);
        doc.is("the last", y.kid(0, 1, 28), 30);
        doc.is("no more", y.kid(0, 1, 29), NONE);
        y.report(1, 31, 1, 0, 0, SPAN, 0, 1);
        doc.is("none of another trace", y.span(0, 1, 8), 29);
    }

    /** In the order that is due; they are told in several other ones. */
    private static final long[][] RISING = {{500, 0, 9}, {3, 9, LAST}, {4, 10, 10}, {9, 10, 30}, {20, 10, 20}, {2, 11, 12},
        {999, LAST - 1, LAST}, {5, LAST, LAST}};

    private static TracePost inSomeOrder(int step, int parent) {
        TracePost x = new TracePost();
        x.report(0, 700, 0, 0, 0, SPAN, 0, LAST);
        for (int i = 0; i < RISING.length; i++) {
            long[] row = RISING[i * step % RISING.length];
            x.report(0, (int) row[0], parent, i % 6, i % 8, i % 3, row[1], row[2]);
        }
        return x;
    }

    private static void orderOfKidsAndRoots() {
        doc.by("KIDS, and the ROOTS of a TRACE, are in the order of BEGIN (as told, not moved), then of NUMBER.");
        for (int step : new int[] {1, 3, 5, 7}) {
            TracePost kids = inSomeOrder(step, 700);
            TracePost roots = inSomeOrder(step, 800);
            for (int i = 0; i < RISING.length; i++) {
                doc.is("kid " + i, kids.kid(0, 700, i), RISING[i][0]);
                // 700 begins at 0 as the first one does, and has the greater number.
                doc.is("root " + i, roots.root(0, i == 0 ? 0 : i + 1), RISING[i][0]);
            }
            doc.is("root 700", roots.root(0, 1), 700);
        }
        TracePost x = new TracePost();
        x.report(0, 1, 0, 0, 0, ASK, 0, 100);
        x.report(0, 2, 1, 1, 0, SERVE, 51, 60);
        x.report(0, 3, 1, 0, 0, SPAN, 50, 60);
        x.report(1, 1, 0, 0, 0, POST, 40, 60);
        x.report(1, 2, 1, 1, 0, TAKE, 30, 40);
        x.report(1, 3, 9, 1, 0, TAKE, 39, 40);
        x.report(2, 1, 0, 0, 0, ASK, 50, 60);
        x.report(2, 2, 1, 1, 0, SERVE, 10, 20);
        x.put();
        doc.is("moved", x.moved(1), 40);
        doc.is("roots as told: 3 is moved behind 1", x.root(1, 0), 3);
        doc.is("roots as told", x.root(1, 1), 1);
        doc.is("kids as told", x.kid(0, 1, 0), 3);
        doc.is("kids as told", x.kid(0, 1, 1), 2);
    }

    private static void aNewObject() {
        doc.by("No SPANS, all TRACES open, QUOTA 1, no SLOW set, d all 0.");
        TracePost x = new TracePost();
        for (int t = 0; t < 20; t++) {
            doc.is("spans", x.spans(t), 0);
            doc.is("open", x.trace(t, 4), 0);
        }
        for (int s = 0; s < 6; s++) {
            doc.is("d", x.moved(s), 0);
        }
        doc.is("spans", x.count(0), 0);
        doc.is("quota", x.quota(1), 1);
        for (int a = 0; a < 8; a++) {
            doc.is("slow", x.slow(a, 0), 0);
        }
        x.report(0, 1, 0, 0, 0, SPAN, 0, LAST);
        x.report(1, 1, 0, 0, 0, SPAN, 0, LAST);
        doc.is("not slow, the first by the quota", x.close(0), 3);
        doc.is("not slow, the second not", x.close(1), 0);
    }

    private static void reportAnswers() {
        doc.by("1 it is there now; 0 it was, alike; 2 it is there in place of another one; 3 another one stays. BAD: one of these");
        TracePost x = new TracePost();
        doc.is("there now", x.report(0, 1, 0, 0, 0, SPAN, 5, 9), 1);
        doc.is("alike", x.report(0, 1, 0, 0, 0, SPAN, 5, 9), 0);
        doc.is("another stays", x.report(0, 1, 0, 0, 0, SPAN, 5, 10), 3);
        doc.is("in place of another", x.report(0, 1, 0, 0, 0, SPAN, 5, 8), 2);
        doc.is("what was there once is another one now", x.report(0, 1, 0, 0, 0, SPAN, 5, 9), 3);
        doc.is("of another trace", x.report(1, 1, 0, 0, 0, SPAN, 5, 9), 1);
        x.drop(0);
        doc.is("dropped: there now", x.report(0, 1, 0, 0, 0, SPAN, 5, 9), 1);
        doc.is("bad", x.report(0, 1, 0, 0, 0, SPAN, 10, 9), BAD);
    }

    private static void reportToClosed() {
        doc.by("STATE: the TRACE is CLOSED (count(4) is 1 more)");
        for (int quota = 0; quota <= 1; quota++) {
            TracePost x = new TracePost();
            x.quota(quota);
            plain(x, 0, 1);
            doc.is("open", plain(x, 0, 1), 0);
            x.close(0);
            doc.is("none was late", x.count(4), 0);
            doc.is("alike", plain(x, 0, 1), STATE);
            doc.is("new", plain(x, 0, 2), STATE);
            doc.is("less", x.report(0, 1, 0, 0, 0, SPAN, 4, 6), STATE);
            doc.is("three late", x.count(4), 3);
            doc.is("bad is not late", x.report(0, 0, 0, 0, 0, SPAN, 4, 6), BAD);
            doc.is("open ones are not", plain(x, 1, 1), 1);
            x.drop(0);
            doc.is("dropped, still closed", plain(x, 0, 1), STATE);
            doc.is("four late", x.count(4), 4);
            doc.is("there is none of them", x.spans(0), 0);
        }
    }

    private static void spansOfATrace() {
        doc.by("How many SPANS a TRACE has. NONE.");
        TracePost x = new TracePost();
        doc.is("empty", x.spans(19), 0);
        for (int n = 1; n <= 30; n++) {
            plain(x, 19, n);
            doc.is("one more", x.spans(19), n);
        }
        plain(x, 19, 31);
        doc.is("full", x.spans(19), 30);
        doc.is("its neighbour", x.spans(18), 0);
        doc.is("beyond", x.spans(20), NONE);
    }

    private static void whatOfASpan() {
        doc.by("6 DEPTH (BAD: it is LOST), 7 its ROOT's NUMBER (BAD), 8 how many KIDS. NONE.");
        doc.ints("what", 0, 8, NONE, what -> leastAndGreatestNumber().span(0, 1, what));
        doc.ints("what of a lost one", 0, 8, NONE, what -> chain(5, 5, 5).span(0, 5, what));
        TracePost x = chain(1, 2, 2);
        int[] lostOne = {2, 0, 0, 0, 0, 0, BAD, BAD, 0};
        for (int what = 0; what <= 8; what++) {
            doc.is("of a lost one, what " + what, x.span(0, 1, what), lostOne[what]);
        }
        doc.is("none is ahead of bad: no such span", x.span(0, 3, 6), NONE);
        x.report(0, 999, 998, 5, 7, TAKE + FAILED, 0, 1);
        int[] greatest = {998, 5, 7, TAKE, 1, 1, 0, 999, 0};
        for (int what = 0; what <= 8; what++) {
            doc.is("of the greatest, what " + what, x.span(0, 999, what), greatest[what]);
        }
        x.drop(0);
        doc.is("dropped", x.span(0, 999, 0), NONE);
    }

    private static void kidFrom0On() {
        doc.by("KID i of a SPAN, from 0 on: its NUMBER. NONE.");
        TracePost x = leastAndGreatestNumber();
        doc.ints("i of one kid", 0, 0, NONE, i -> x.kid(0, 1, i));
        x.report(0, 3, 1, 0, 0, SPAN, 0, 10);
        doc.ints("i of two kids", 0, 1, NONE, i -> x.kid(0, 1, i));
        doc.is("the first", x.kid(0, 1, 0), 2);
        doc.is("the second", x.kid(0, 1, 1), 3);
        for (int i = -1; i <= 1; i++) {
            doc.is("of one that has none, " + i, x.kid(0, 2, i), NONE);
            doc.is("0 is no span, though roots have it for parent, " + i, x.kid(0, 0, i), NONE);
        }
    }

    private static void rootFrom0On() {
        doc.by("ROOT i of a TRACE, from 0 on: its NUMBER. NONE.");
        for (int i = -1; i <= 1; i++) {
            doc.is("of an empty trace, " + i, new TracePost().root(0, i), NONE);
            doc.is("of one with lost spans alone, " + i, chain(1, 2, 2).root(0, i), NONE);
        }
        TracePost x = new TracePost();
        for (int n = 1; n <= 30; n++) {
            x.report(0, n, n % 2 * 900, 0, 0, SPAN, 0, 1);
            int last = n - 1;
            doc.ints("i of " + n + " roots", 0, last, NONE, i -> x.root(0, i));
            doc.is("the last", x.root(0, last), n);
        }
    }

    private static void whatOfATrace() {
        doc.by("1 HOLES (NUMBERS that are PARENTS and not there)");
        TracePost x = new TracePost();
        doc.is("empty", x.trace(0, 1), 0);
        x.report(0, 10, 0, 0, 0, SPAN, 5, 6);
        doc.is("0 is no number", x.trace(0, 1), 0);
        x.report(0, 11, 900, 0, 0, SPAN, 5, 6);
        doc.is("one", x.trace(0, 1), 1);
        x.report(0, 12, 900, 0, 0, SPAN, 4, 6);
        x.report(0, 13, 900, 0, 0, SPAN, 6, 6);
        doc.is("the same for three", x.trace(0, 1), 1);
        x.report(0, 14, 901, 0, 0, SPAN, 5, 6);
        doc.is("another one", x.trace(0, 1), 2);
        x.report(0, 900, 899, 0, 0, SPAN, 5, 6);
        doc.is("one is there, with a hole above it", x.trace(0, 1), 2);
        x.report(0, 899, 10, 0, 0, SPAN, 5, 6);
        doc.is("one less", x.trace(0, 1), 1);
        TracePost y = new TracePost();
        for (int n = 1; n <= 30; n++) {
            y.report(0, n, 900 + n, 0, 0, SPAN, 5, 6);
        }
        doc.is("as many as can be", y.trace(0, 1), 30);
        doc.by("4 whether it is CLOSED: 0 open, 1 KEPT, 2 not. NONE.");
        doc.ints("what", 0, 4, NONE, what -> y.trace(0, what));
        doc.is("open", y.trace(0, 4), 0);
        y.close(0);
        doc.is("kept", y.trace(0, 4), 1);
        y.report(1, 1, 0, 0, 0, SPAN, 5, 6);
        y.close(1);
        doc.is("not kept", y.trace(1, 4), 2);
        doc.is("its neighbour is open", y.trace(2, 4), 0);
    }

    private static void timeOfASpan() {
        doc.by("Of a SPAN BEGIN, or (end) END, as told, or MOVED. NO: none such.");
        TracePost x = new TracePost();
        doc.is("none such", x.time(0, 1, false, false), NO);
        x.report(0, 1, 0, 0, 0, SPAN, 0, LAST);
        doc.is("the least", x.time(0, 1, false, false), 0);
        doc.is("the greatest", x.time(0, 1, true, false), LAST);
        doc.is("moved by 0", x.time(0, 1, true, true), LAST);
        // d(1) is 1000 million more than d(0), and so on: beyond what an int holds.
        for (int s = 0; s < 5; s++) {
            x.report(1, 10 + 2 * s, 0, s, 0, POST, 0, LAST);
            x.report(1, 11 + 2 * s, 10 + 2 * s, s + 1, 0, TAKE, 0, LAST);
        }
        doc.is("five have another d", x.put(), 5);
        doc.is("begin as told", x.time(1, 19, false, false), 0);
        doc.is("begin moved", x.time(1, 19, false, true), 5 * LAST);
        doc.is("end moved", x.time(1, 19, true, true), 6 * LAST);
        x.drop(1);
        doc.is("dropped", x.time(1, 19, true, true), NO);
    }
}
