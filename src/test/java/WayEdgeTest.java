/** The boundaries of Terms, part 3, and of promises 16 to 18: the way of a root, its parts and shares. */
public final class WayEdgeTest {
    private static final long NO = TracePost.NO;
    private static final int NONE = TracePost.NONE;
    private static final int SPAN = 0, ASK = 1, SERVE = 2, POST = 3, TAKE = 4, FAILED = 8;
    private static final long LAST = 1000000000L;

    private static final Quotes doc = new Quotes("edges of ways");

    public static void main(String[] args) {
        fromEndDownToBegin();
        beginAndEndAlike();
        kindsOnTheWay();
        beginBelowEnd();
        endAtC();
        endAtF();
        theGreatestEnd();
        theLeastNumber();
        thereIsNone();
        endBelowC();
        beginAtF();
        xGoesOn();
        risingOrder();
        lostAndOthersKids();
        byMovedTimes();
        mostParts();
        wayFrom0On();
        partFrom0On();
        asItWasThen();
        refusedWayTellsNothing();
        shares();
        sharesOfLostOnes();
        doc.end();
    }

    /** Root 1, 100 .. 200, service 0. */
    private static TracePost root() {
        TracePost x = new TracePost();
        x.report(0, 1, 0, 0, 0, SPAN, 100, 200);
        return x;
    }

    private static void kid(TracePost x, int number, int parent, long begin, long end) {
        x.report(0, number, parent, 0, 0, SPAN, begin, end);
    }

    /** The parts of trace 0's first root: number, from, to. */
    private static void parts(String what, TracePost x, long[]... want) {
        doc.is(what + ", how many", x.way(0, 0), want.length);
        told(what, x, want);
    }

    private static void told(String what, TracePost x, long[]... want) {
        for (int i = 0; i < want.length; i++) {
            for (int w = 0; w < 3; w++) {
                doc.is(what + ", part " + i + " what " + w, x.part(i, w), want[i][w]);
            }
        }
        doc.is(what + ", no more", x.part(want.length, 0), NO);
    }

    private static long[] part(long number, long from, long to) {
        return new long[] {number, from, to};
    }

    private static void fromEndDownToBegin() {
        doc.by("THE WAY of a ROOT, by MOVED times. It is WALKED from its END down to its BEGIN.");
        parts("alone", root(), part(1, 100, 200));
        TracePost shortest = new TracePost();
        kid(shortest, 999, 0, 0, 1);
        parts("the shortest", shortest, part(999, 0, 1));
        TracePost longest = new TracePost();
        kid(longest, 999, 998, 0, LAST);
        parts("the longest, below a hole", longest, part(999, 0, LAST));
    }

    private static void beginAndEndAlike() {
        doc.by("(BEGIN and END alike: no PARTS.)");
        for (long at : new long[] {0, 50, LAST}) {
            TracePost x = new TracePost();
            kid(x, 1, 0, at, at);
            parts("alike", x);
            kid(x, 2, 1, at, at);
            parts("with a kid that is alike too", x);
            doc.is("its share", x.share(0, 1), 0);
        }
        TracePost x = new TracePost();
        kid(x, 1, 0, 50, 50);
        kid(x, 2, 1, 40, 50);
        parts("with a kid that ends with it", x);
        doc.is("the kid's share", x.share(0, 2), 0);
        TracePost y = new TracePost();
        kid(y, 1, 0, 50, 51);
        kid(y, 2, 1, 40, 51);
        parts("one step longer", y, part(2, 50, 51));
    }

    private static void kindsOnTheWay() {
        doc.by("of its KIDS of KINDS SPAN, ASK, SERVE");
        for (int kind = 0; kind <= 4; kind++) {
            for (int failed = 0; failed <= 8; failed += 8) {
                TracePost x = root();
                x.report(0, 2, 1, 0, 0, kind + failed, 100, 200);
                parts("a kid of kind " + (kind + failed), x, part(kind <= 2 ? 2 : 1, 100, 200));
                TracePost y = new TracePost();
                y.report(0, 1, 0, 0, 0, kind + failed, 5, 9);
                parts("a root may be of any kind", y, part(1, 5, 9));
            }
        }
        TracePost x = root();
        x.report(0, 2, 1, 0, 0, POST, 120, 180);
        x.report(0, 3, 2, 0, 0, SPAN, 130, 170);
        parts("below a post nothing is on the way", x, part(1, 100, 200));
        TracePost y = new TracePost();
        y.report(0, 1, 0, 0, 0, POST, 100, 200);
        y.report(0, 2, 1, 0, 0, SPAN, 130, 170);
        parts("below a post that is the root it is", y, part(1, 100, 130), part(2, 130, 170), part(1, 170, 200));
    }

    private static void beginBelowEnd() {
        doc.by("with BEGIN below END");
        for (long at : new long[] {101, 150, 200}) {
            TracePost x = root();
            kid(x, 2, 1, at, at);
            parts("begin at the end, " + at, x, part(1, 100, 200));
        }
        TracePost x = root();
        kid(x, 2, 1, 149, 150);
        parts("begin one below the end", x, part(1, 100, 149), part(2, 149, 150), part(1, 150, 200));
        kid(x, 3, 1, 151, 151);
        parts("one that is alike, above it, does not count", x, part(1, 100, 149), part(2, 149, 150), part(1, 150, 200));
    }

    private static void endAtC() {
        doc.by("END at most c");
        TracePost below = root();
        kid(below, 2, 1, 150, 199);
        parts("one below c", below, part(1, 100, 150), part(2, 150, 199), part(1, 199, 200));
        TracePost at = root();
        kid(at, 2, 1, 150, 200);
        parts("at c", at, part(1, 100, 150), part(2, 150, 200));
        TracePost above = root();
        kid(above, 2, 1, 150, 201);
        parts("one above c", above, part(1, 100, 200));
        kid(above, 3, 1, 150, 160);
        parts("one above c, and another one", above, part(1, 100, 150), part(3, 150, 160), part(1, 160, 200));
        // c is then where the kid that was walked begins.
        for (long end = 149; end <= 151; end++) {
            TracePost x = root();
            kid(x, 2, 1, 150, 200);
            kid(x, 3, 1, 120, end);
            if (end > 150) {
                parts("one above the second c", x, part(1, 100, 150), part(2, 150, 200));
            } else if (end == 150) {
                parts("at the second c", x, part(1, 100, 120), part(3, 120, 150), part(2, 150, 200));
            } else {
                parts("one below the second c", x, part(1, 100, 120), part(3, 120, 149), part(1, 149, 150), part(2, 150, 200));
            }
        }
    }

    private static void endAtF() {
        doc.by("and above f");
        TracePost below = root();
        kid(below, 2, 1, 50, 99);
        parts("one below f", below, part(1, 100, 200));
        TracePost at = root();
        kid(at, 2, 1, 50, 100);
        parts("at f", at, part(1, 100, 200));
        TracePost above = root();
        kid(above, 2, 1, 50, 101);
        parts("one above f", above, part(2, 100, 101), part(1, 101, 200));
        // Of 3, below 2 that begins below f: f is still the root's begin.
        for (long end = 99; end <= 101; end++) {
            TracePost x = root();
            kid(x, 2, 1, 50, 180);
            kid(x, 3, 2, 60, end);
            if (end > 100) {
                parts("above f, a step down", x, part(3, 100, 101), part(2, 101, 180), part(1, 180, 200));
            } else {
                parts("not above f, a step down", x, part(2, 100, 180), part(1, 180, 200));
            }
        }
    }

    private static void theGreatestEnd() {
        doc.by("the one with the greatest END");
        for (int first = 2; first <= 3; first++) {
            // Two that lie over one another: only the one that ends later is walked, whichever begins or is told first.
            int second = 5 - first;
            TracePost x = root();
            kid(x, first, 1, 110, 161);
            kid(x, second, 1, 120, 160);
            parts("one step greater, begins first", x, part(1, 100, 110), part(first, 110, 161), part(1, 161, 200));
            TracePost y = root();
            kid(y, first, 1, 120, 161);
            kid(y, second, 1, 110, 160);
            parts("one step greater, begins later", y, part(1, 100, 120), part(first, 120, 161), part(1, 161, 200));
        }
    }

    private static void theLeastNumber() {
        doc.by("of these that with the least NUMBER.");
        for (int first = 2; first <= 3; first++) {
            int second = 5 - first;
            TracePost x = root();
            kid(x, first, 1, 110, 160);
            kid(x, second, 1, 120, 160);
            long from = first == 2 ? 110 : 120;
            parts("ends alike", x, part(1, 100, from), part(2, from, 160), part(1, 160, 200));
            TracePost y = root();
            kid(y, first, 1, 110, 160);
            kid(y, second, 1, 110, 160);
            parts("begins and ends alike", y, part(1, 100, 110), part(2, 110, 160), part(1, 160, 200));
        }
        TracePost x = root();
        x.report(0, 2, 1, 0, 0, POST, 110, 160);
        kid(x, 3, 1, 110, 160);
        kid(x, 4, 1, 110, 160);
        parts("the least that can be on the way", x, part(1, 100, 110), part(3, 110, 160), part(1, 160, 200));
    }

    private static void thereIsNone() {
        doc.by("There is none: the PART of x is f .. c.");
        TracePost x = root();
        kid(x, 2, 1, 100, 200);
        parts("none below 2", x, part(2, 100, 200));
        kid(x, 3, 2, 50, 100);
        kid(x, 4, 2, 150, 201);
        kid(x, 5, 2, 150, 150);
        parts("none that can be on the way", x, part(2, 100, 200));
    }

    private static void endBelowC() {
        doc.by("Else, if its END is below c, that .. c is a PART of x");
        for (long end = 199; end <= 200; end++) {
            TracePost x = root();
            kid(x, 2, 1, 100, end);
            if (end == 200) {
                parts("at c: no part of x", x, part(2, 100, 200));
            } else {
                parts("one below c: a part of one", x, part(2, 100, 199), part(1, 199, 200));
            }
        }
    }

    private static void beginAtF() {
        doc.by("then it is WALKED from its END down to g, the greater of f and its BEGIN");
        for (long begin : new long[] {0, 99, 100, 101}) {
            TracePost x = root();
            kid(x, 2, 1, begin, 150);
            if (begin > 100) {
                parts("begin one above f", x, part(1, 100, 101), part(2, 101, 150), part(1, 150, 200));
            } else {
                parts("begin at or below f: " + begin, x, part(2, 100, 150), part(1, 150, 200));
            }
        }
        TracePost x = root();
        kid(x, 2, 1, 150, 180);
        for (int n = 3; n <= 5; n++) {
            kid(x, n, 2, 146 + n, 160);
        }
        // 3 begins at 149, below g of 2: it is walked down to 150.
        parts("g is what is below it", x, part(1, 100, 150), part(3, 150, 160), part(2, 160, 180), part(1, 180, 200));
    }

    private static void xGoesOn() {
        doc.by("then, if g is above f, x goes on from g down to f.");
        for (long begin = 100; begin <= 101; begin++) {
            TracePost x = root();
            kid(x, 2, 1, begin, 200);
            kid(x, 3, 1, 50, 101);
            if (begin == 100) {
                parts("g is f: no more, though 3 would be there", x, part(2, 100, 200));
            } else {
                parts("g is one above f: 3 is on the way", x, part(3, 100, 101), part(2, 101, 200));
            }
        }
        TracePost x = root();
        for (int n = 2; n <= 5; n++) {
            kid(x, n, 1, 80 + 20 * n, 100 + 20 * n);
        }
        parts("on and on", x, part(1, 100, 120), part(2, 120, 140), part(3, 140, 160), part(4, 160, 180), part(5, 180, 200));
    }

    private static void risingOrder() {
        doc.by("PARTS are told in rising order of time.");
        TracePost x = root();
        kid(x, 9, 1, 110, 120);
        kid(x, 5, 1, 130, 190);
        kid(x, 7, 5, 140, 150);
        kid(x, 3, 5, 170, 180);
        int parts = x.way(0, 0);
        doc.is("how many", parts, 9);
        long at = 100;
        for (int i = 0; i < parts; i++) {
            doc.is("each where the one before it ends", x.part(i, 1), at);
            doc.is("each has a length", x.part(i, 2) > at ? 1 : 0, 1);
            at = x.part(i, 2);
        }
        doc.is("up to the end", at, 200);
        int[] numbers = {1, 9, 1, 5, 7, 5, 3, 5, 1};
        for (int i = 0; i < 9; i++) {
            doc.is("whose, " + i, x.part(i, 0), numbers[i]);
        }
    }

    private static void lostAndOthersKids() {
        doc.by("of its KIDS");
        TracePost x = root();
        kid(x, 2, 3, 110, 190);
        kid(x, 3, 2, 110, 190);
        kid(x, 4, 900, 110, 190);
        x.report(1, 5, 1, 0, 0, SPAN, 110, 190);
        parts("lost ones, other roots and other traces' are not on the way", x, part(1, 100, 200));
        kid(x, 3, 1, 110, 190);
        parts("placed: it and its kid", x, part(1, 100, 110), part(2, 110, 190), part(1, 190, 200));
    }

    private static void byMovedTimes() {
        doc.by("THE WAY of a ROOT, by MOVED times.");
        TracePost x = new TracePost();
        x.report(0, 1, 0, 0, 0, ASK, 100, 200);
        x.report(0, 2, 1, 1, 0, SERVE, 1150, 1200);
        parts("as told it ends above c", x, part(1, 100, 200));
        x.put();
        doc.is("d", x.moved(1), -1000);
        parts("moved it ends at c", x, part(1, 100, 150), part(2, 150, 200));
        x.report(1, 1, 0, 1, 0, POST, 1000, 1001);
        x.report(1, 2, 1, 0, 0, TAKE, 0, 0);
        doc.is("one step further", x.put(), 1);
        parts("moved it ends one below c", x, part(1, 100, 149), part(2, 149, 199), part(1, 199, 200));
        TracePost far = new TracePost();
        for (int s = 0; s < 5; s++) {
            far.report(1, 10 + 2 * s, 0, s, 0, POST, 0, LAST);
            far.report(1, 11 + 2 * s, 10 + 2 * s, s + 1, 0, TAKE, 0, LAST);
        }
        far.put();
        far.report(0, 1, 0, 5, 0, SPAN, 1, LAST);
        far.report(0, 2, 1, 5, 0, SPAN, 1, LAST - 1);
        parts("beyond what an int holds", far, part(2, 5 * LAST + 1, 6 * LAST - 1), part(1, 6 * LAST - 1, 6 * LAST));
    }

    private static void mostParts() {
        doc.by("A TRACE has at most 30 SPANS");
        TracePost wide = new TracePost();
        kid(wide, 1, 0, 0, 1000);
        for (int n = 2; n <= 30; n++) {
            kid(wide, n, 1, 10L * n, 10L * n + 5);
        }
        doc.is("29 kids side by side, and gaps", wide.way(0, 0), 59);
        for (int i = 0; i < 59; i++) {
            doc.is("part " + i, wide.part(i, 0), i % 2 == 0 ? 1 : 2 + i / 2);
        }
        TracePost deep = new TracePost();
        for (int n = 1; n <= 30; n++) {
            kid(deep, n, n - 1, n, 100 - n);
        }
        doc.is("29 steps down", deep.way(0, 0), 59);
        for (int i = 0; i < 59; i++) {
            doc.is("part " + i, deep.part(i, 0), i < 30 ? i + 1 : 59 - i);
        }
        TracePost tight = new TracePost();
        for (int n = 1; n <= 30; n++) {
            kid(tight, n, n - 1, 5, 9);
        }
        parts("29 steps down, no gaps", tight, part(30, 5, 9));
    }

    private static void wayFrom0On() {
        doc.by("THE WAY of ROOT i of a TRACE is told: how many PARTS. NONE.");
        TracePost x = new TracePost();
        doc.is("no root", x.way(0, 0), NONE);
        kid(x, 5, 5, 0, 9);
        doc.is("no root but a lost one", x.way(0, 0), NONE);
        for (int n = 1; n <= 3; n++) {
            kid(x, n, n == 2 ? 900 : 0, 10L * n, 10L * n + n);
            int last = n - 1;
            doc.ints("i of " + n + " roots", 0, last, NONE, i -> x.way(0, i));
            x.way(0, last);
            told("the last root", x, part(n, 10L * n, 10L * n + n));
        }
        x.drop(0);
        doc.is("dropped", x.way(0, 0), NONE);
    }

    private static void partFrom0On() {
        doc.by("Of PART i of the WAY that was told latest, from 0 on: what 0 the SPAN's NUMBER, 1 from, 2 to. NO: none such.");
        TracePost x = root();
        for (int what = 0; what <= 2; what++) {
            doc.is("none was told", x.part(0, what), NO);
        }
        x.way(0, 0);
        doc.ints("i of one part", 0, 0, NO, i -> x.part(i, 0));
        doc.ints("what", 0, 2, NO, what -> x.part(0, what));
        kid(x, 2, 1, 150, 200);
        x.way(0, 0);
        doc.ints("i of two parts", 0, 1, NO, i -> x.part(i, 2));
        x.report(1, 1, 0, 0, 0, SPAN, 7, 7);
        doc.is("a way of no parts", x.way(1, 0), 0);
        doc.is("none such", x.part(0, 0), NO);
    }

    private static void asItWasThen() {
        doc.by("(As it was then.)");
        TracePost x = new TracePost();
        x.report(0, 1, 0, 0, 0, ASK, 100, 200);
        x.report(0, 2, 1, 1, 0, SERVE, 130, 180);
        long[][] then = {part(1, 100, 130), part(2, 130, 180), part(1, 180, 200)};
        parts("told", x, then);
        kid(x, 3, 1, 190, 195);
        told("a span came", x, then);
        x.report(0, 2, 1, 1, 0, SERVE, 120, 180);
        told("a span came in place", x, then);
        x.report(1, 1, 0, 0, 0, POST, 0, 5);
        x.report(1, 2, 1, 1, 0, TAKE, 0, 0);
        doc.is("moved", x.put(), 1);
        told("a put", x, then);
        x.share(0, 1);
        x.share(0, 2);
        told("shares", x, then);
        x.close(1);
        x.close(0);
        told("closes", x, then);
        x.drop(0);
        told("a drop", x, then);
        doc.is("another way", x.way(1, 0), 1);
        told("another way", x, part(1, 0, 5));
    }

    private static void refusedWayTellsNothing() {
        doc.by("They change nothing but count(4).");
        TracePost x = root();
        x.way(0, 0);
        int[][] refused = {{0, 1}, {0, -1}, {1, 0}, {20, 0}, {-1, 0}, {0, Integer.MAX_VALUE}, {Integer.MIN_VALUE, 0}};
        for (int[] r : refused) {
            doc.is("refused", x.way(r[0], r[1]), NONE);
            told("what was told before", x, part(1, 100, 200));
        }
    }

    private static void shares() {
        doc.by("How much of THE WAY of its ROOT is in PARTS of a SPAN.");
        TracePost x = root();
        doc.is("all", x.share(0, 1), 100);
        kid(x, 2, 1, 100, 200);
        doc.is("nothing is left", x.share(0, 1), 0);
        doc.is("all", x.share(0, 2), 100);
        kid(x, 3, 2, 100, 101);
        kid(x, 4, 2, 199, 200);
        doc.is("one at each end", x.share(0, 2), 98);
        doc.is("one", x.share(0, 3), 1);
        x.report(0, 5, 1, 0, 0, POST, 100, 200);
        doc.is("not on the way", x.share(0, 5), 0);
        kid(x, 6, 900, 0, 40);
        doc.is("of its own root", x.share(0, 6), 40);
        doc.is("the other root's are as they were", x.share(0, 2), 98);
        x.report(1, 2, 0, 0, 0, SPAN, 0, 7);
        x.share(0, 2);
        doc.is("nothing is left of the share that was asked for before", x.share(1, 2), 7);
        TracePost y = new TracePost();
        kid(y, 1, 0, 0, LAST);
        doc.is("the greatest", y.share(0, 1), LAST);
        kid(y, 2, 1, 1, LAST - 1);
        doc.is("two parts of one", y.share(0, 1), 2);
        doc.is("the rest", y.share(0, 2), LAST - 2);
    }

    private static void sharesOfLostOnes() {
        doc.by("NO: none such, or it is LOST.");
        TracePost x = root();
        doc.is("none such", x.share(0, 2), NO);
        kid(x, 2, 2, 100, 200);
        doc.is("lost", x.share(0, 2), NO);
        kid(x, 3, 2, 100, 200);
        doc.is("below a lost one", x.share(0, 3), NO);
        kid(x, 2, 1, 100, 200);
        doc.is("placed", x.share(0, 2), 0);
        doc.is("placed", x.share(0, 3), 100);
        x.report(1, 1, 0, 0, 0, TAKE + FAILED, 4, 4);
        x.report(1, 2, 1, 0, 0, SERVE, 4, 4);
        doc.is("0 is not NO", x.share(1, 2), 0);
        x.drop(0);
        doc.is("dropped", x.share(0, 3), NO);
    }
}
