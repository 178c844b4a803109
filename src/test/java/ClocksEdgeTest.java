/** The boundaries of Terms, part 2, and of promises 9 to 15: pairs, bounds, rings, and what is put or tried. */
public final class ClocksEdgeTest {
    private static final long NO = TracePost.NO;
    private static final int NONE = TracePost.NONE, BAD = TracePost.BAD, STATE = TracePost.STATE;
    private static final int SPAN = 0, ASK = 1, SERVE = 2, POST = 3, TAKE = 4, FAILED = 8;
    private static final long LAST = 1000000000L, MOST = 10000000000L;

    private static final Quotes doc = new Quotes("edges of clocks");

    public static void main(String[] args) {
        services();
        pairKinds();
        pairParents();
        pairServices();
        whatAnAskTells();
        whatAPostTells();
        theLeastBound();
        boundRefused();
        agreeJust();
        ringsOfSumBelow0();
        theShortestRing();
        theLeastRing();
        far();
        farNotItself();
        skewEnds();
        skewRefused();
        ringFrom0On();
        nearest0();
        nearest0AndThoseAhead();
        farThroughLaterOnes();
        movedAsPutLatest();
        putAnswers();
        movedOfAService();
        attemptLimits();
        attemptedOnes();
        checkJust();
        checkFirst();
        checkEndsTheTry();
        doc.end();
    }

    /** d(x) - d(y) is at most n, told by one post and its take; n is -10^9 .. 10^9. */
    private static void tell(TracePost post, int trace, int x, int y, long n) {
        int number = 1 + post.spans(trace);
        long end = n < 0 ? -n : 0;
        post.report(trace, number, 0, x, 0, POST, 0, end);
        post.report(trace, number + 1, number, y, 0, TAKE, end + n, LAST);
    }

    private static TracePost told(int x, int y, long n) {
        TracePost post = new TracePost();
        tell(post, 0, x, y, n);
        return post;
    }

    private static void services() {
        doc.by("SERVICES 0 ..");
        doc.ints("bound's x", 0, 5, NO, v -> told(v == 5 ? 5 : 0, 1, 7).bound(v, 1));
        doc.ints("bound's y", 0, 5, NO, v -> told(1, v == 5 ? 5 : 0, 7).bound(1, v));
        doc.ints("skew's x", 0, 5, NO, v -> told(v == 5 ? 5 : 0, 1, 7).skew(v, 1, 1));
        doc.ints("skew's y", 0, 5, NO, v -> told(1, v == 5 ? 5 : 0, 7).skew(1, v, 1));
        doc.ints("moved's service", 0, 5, NO, v -> new TracePost().moved(v));
        doc.ints("attempt's service", 0, 5, NONE, v -> new TracePost().attempt(v, 1));
    }

    private static void pairKinds() {
        doc.by("A SERVE whose PARENT is there and an ASK, a TAKE whose PARENT is there and a POST, is with it a PAIR (PLACED or not)");
        for (int over = 0; over <= 4; over++) {
            for (int below = 0; below <= 4; below++) {
                boolean asks = over == ASK && below == SERVE, asksTurned = over == SERVE && below == ASK;
                boolean posts = over == POST && below == TAKE, postsTurned = over == TAKE && below == POST;
                TracePost placed = new TracePost();
                placed.report(0, 1, 0, 0, 0, over, 5, 9);
                placed.report(0, 2, 1, 1, 0, below, 5, 9);
                String kinds = "kinds " + over + ", " + below;
                doc.is("placed, " + kinds, placed.trace(0, 3), asks || posts ? 1 : 0);
                doc.is("its bound, " + kinds, placed.bound(0, 1) == NO ? 0 : 1, asks || posts ? 1 : 0);
                // Each is the other's parent, so that each way round can be the pair.
                TracePost lost = new TracePost();
                lost.report(0, 1, 2, 0, 0, over + FAILED, 5, 9);
                lost.report(0, 2, 1, 1, 0, below + FAILED, 5, 9);
                doc.is("lost, " + kinds, lost.trace(0, 3), asks || posts || asksTurned || postsTurned ? 1 : 0);
                doc.is("its bound, " + kinds, lost.bound(0, 1) == NO ? 0 : 1, asks || posts || asksTurned ? 1 : 0);
                doc.is("its bound turned round, " + kinds, lost.bound(1, 0) == NO ? 0 : 1, asks || asksTurned || postsTurned ? 1 : 0);
            }
        }
    }

    private static void pairParents() {
        doc.by("A SERVE whose PARENT is there and an ASK, a TAKE whose PARENT is there and a POST");
        TracePost x = new TracePost();
        x.report(0, 2, 1, 1, 0, SERVE, 5, 9);
        doc.is("the parent is not there", x.count(5), 0);
        x.report(1, 1, 0, 0, 0, ASK, 5, 9);
        doc.is("it is there in another trace", x.count(5), 0);
        x.report(0, 1, 3, 0, 0, ASK, 5, 9);
        doc.is("it is there", x.count(5), 1);
        x.report(0, 1, 3, 0, 0, SPAN, 5, 9);
        doc.is("it is there in place of the ask, no ask", x.count(5), 0);
        x.report(0, 4, 3, 0, 0, ASK, 5, 9);
        x.report(0, 5, 4, 1, 0, SERVE, 5, 9);
        x.report(0, 6, 5, 2, 0, SERVE, 5, 9);
        doc.is("the parent's parent does not count", x.count(5), 1);
        for (int n = 7; n <= 30; n++) {
            x.report(0, n, 4, 1 + n % 5, 0, SERVE, 5, 9);
        }
        doc.is("as many of one ask as can be", x.trace(0, 3), 25);
        doc.is("dropped", x.drop(0), 29);
        doc.is("no pairs any more", x.count(5), 0);
        doc.is("no bound any more", x.bound(0, 1), NO);
    }

    private static void pairServices() {
        doc.by("if their SERVICES are two.");
        for (int service = 0; service < 6; service++) {
            for (int other = 0; other < 6; other++) {
                TracePost x = new TracePost();
                x.report(0, 1, 0, service, 0, ASK, 5, 9);
                x.report(0, 2, 1, other, 0, SERVE, 6, 8);
                doc.is("pairs of " + service + " and " + other, x.trace(0, 3), service == other ? 0 : 1);
                doc.is("bound of " + service + " and " + other, x.bound(service, other), service == other ? NO : 1);
            }
        }
    }

    private static TracePost asked(long askBegin, long askEnd, long serveBegin, long serveEnd) {
        TracePost x = new TracePost();
        x.report(0, 1, 0, 2, 0, ASK, askBegin, askEnd);
        x.report(0, 2, 1, 3, 0, SERVE, serveBegin, serveEnd);
        return x;
    }

    private static void whatAnAskTells() {
        doc.by("tells d(x) - d(y) <= BEGIN of SERVE less BEGIN of ASK, and d(y) - d(x) <= END of ASK less END of SERVE");
        long[][] rows = {{10, 90, 20, 70, 10, 20}, {10, 90, 10, 90, 0, 0}, {10, 90, 9, 91, -1, -1}, {10, 90, 11, 89, 1, 1},
            {0, 0, LAST, LAST, LAST, -LAST}, {LAST, LAST, 0, 0, -LAST, LAST}, {0, LAST, 0, LAST, 0, 0}, {0, LAST, LAST, LAST, LAST, 0},
            {0, LAST, 0, 0, 0, LAST}, {0, 0, 0, LAST, 0, -LAST}, {LAST, LAST, 0, LAST, -LAST, 0}};
        for (long[] r : rows) {
            TracePost x = asked(r[0], r[1], r[2], r[3]);
            doc.is("ask to serve", x.bound(2, 3), r[4]);
            doc.is("serve to ask", x.bound(3, 2), r[5]);
            doc.is("they agree if the sum is not below 0", x.count(6), r[4] + r[5] >= 0 ? 1 : 0);
        }
    }

    private static TracePost posted(long postBegin, long postEnd, long takeBegin, long takeEnd) {
        TracePost x = new TracePost();
        x.report(0, 1, 0, 2, 0, POST, postBegin, postEnd);
        x.report(0, 2, 1, 3, 0, TAKE, takeBegin, takeEnd);
        return x;
    }

    private static void whatAPostTells() {
        doc.by("of a POST of x and a TAKE of y: d(x) - d(y) <= BEGIN of TAKE less END of POST.");
        long[][] rows = {{10, 20, 30, 40, 10}, {10, 20, 20, 20, 0}, {10, 20, 19, 90, -1}, {10, 20, 21, 90, 1}, {0, 0, LAST, LAST, LAST},
            {0, LAST, 0, LAST, -LAST}, {LAST, LAST, 0, 0, -LAST}, {LAST, LAST, LAST, LAST, 0}};
        for (long[] r : rows) {
            TracePost x = posted(r[0], r[1], r[2], r[3]);
            doc.is("post to take", x.bound(2, 3), r[4]);
            doc.is("take to post: nothing", x.bound(3, 2), NO);
            doc.is("one alone agrees", x.count(6), 1);
        }
    }

    private static void theLeastBound() {
        doc.by("BOUND(x, y) is the least number that is told so for d(x) - d(y), if there is one.");
        TracePost x = new TracePost();
        doc.is("there is none", x.bound(4, 1), NO);
        tell(x, 0, 4, 1, 5);
        doc.is("one", x.bound(4, 1), 5);
        tell(x, 1, 4, 1, 6);
        doc.is("one more is not less", x.bound(4, 1), 5);
        tell(x, 2, 4, 1, 5);
        doc.is("as much", x.bound(4, 1), 5);
        tell(x, 3, 4, 1, 4);
        doc.is("one less", x.bound(4, 1), 4);
        tell(x, 4, 4, 1, 0);
        doc.is("0", x.bound(4, 1), 0);
        tell(x, 5, 4, 1, -1);
        doc.is("below 0", x.bound(4, 1), -1);
        tell(x, 19, 4, 1, -LAST);
        doc.is("the least that can be", x.bound(4, 1), -LAST);
        int[] drops = {19, 5, 4, 3, 0, 2};
        long[] left = {-1, 0, 4, 5, 5, 6};
        for (int i = 0; i < drops.length; i++) {
            x.drop(drops[i]);
            doc.is("what is left", x.bound(4, 1), left[i]);
        }
        x.close(1);
        doc.is("closed, it still tells", x.bound(4, 1), 6);
        x.drop(1);
        doc.is("none is left", x.bound(4, 1), NO);
        tell(x, 2, 5, 0, LAST);
        doc.is("the greatest that can be", x.bound(5, 0), LAST);
        x.report(2, 2, 1, 0, 0, TAKE, LAST - 1, LAST);
        doc.is("one less, in place of it", x.bound(5, 0), LAST - 1);
        x.report(2, 2, 1, 0, 0, TAKE, LAST, LAST);
        doc.is("one more, that does not come", x.bound(5, 0), LAST - 1);
        x.report(2, 1, 0, 4, 0, POST, 0, 0);
        doc.is("the post is of another service now", x.bound(5, 0), NO);
        doc.is("of that one", x.bound(4, 0), LAST - 1);
        doc.is("not the other way", x.bound(0, 4), NO);
    }

    private static void boundRefused() {
        doc.by("BOUND(x, y). NO: there is none.");
        for (int x = -1; x <= 6; x++) {
            for (int y = -1; y <= 6; y++) {
                doc.is("nothing told, " + x + " " + y, new TracePost().bound(x, y), NO);
                doc.is("0 of 0 and 5, " + x + " " + y, told(0, 5, 0).bound(x, y), x == 0 && y == 5 ? 0 : NO);
            }
        }
        TracePost x = told(0, 1, 3);
        tell(x, 0, 1, 2, 3);
        doc.is("a sum of bounds is no bound", x.bound(0, 2), NO);
        tell(x, 0, 1, 0, -4);
        doc.is("they do not agree: it is there all the same", x.bound(0, 1), 3);
    }

    /** A ring of the first or the last m services: all bounds 0 but one. */
    private static TracePost ring(int first, int m, int where, long sum) {
        TracePost x = new TracePost();
        for (int i = 0; i < m; i++) {
            tell(x, 0, first + i, first + (i + 1) % m, i == where ? sum : 0);
        }
        return x;
    }

    private static void agreeJust() {
        doc.by("They AGREE if there are d(0) .. d(5) by which all that is told is so.");
        doc.is("nothing is told", new TracePost().count(6), 1);
        for (int m = 2; m <= 6; m++) {
            for (int first = 0; first <= 6 - m; first++) {
                for (int where = 0; where < m; where++) {
                    doc.is("a sum of 1, " + m, ring(first, m, where, 1).count(6), 1);
                    doc.is("a sum of 0, " + m, ring(first, m, where, 0).count(6), 1);
                    doc.is("a sum of -1, " + m, ring(first, m, where, -1).count(6), 0);
                }
            }
        }
        TracePost x = ring(0, 6, 3, -1);
        doc.is("the last bound is told by trace 0 alone", x.drop(0), 12);
        doc.is("they agree again", x.count(6), 1);
    }

    private static void ringsOfSumBelow0() {
        doc.by("a RING is a row of SERVICES x1, .., xm, all unlike, of which BOUND(x1, x2), .., BOUND(xm, x1) are there and have a sum below 0");
        for (int m = 2; m <= 6; m++) {
            for (int first = 0; first <= 6 - m; first++) {
                TracePost below = ring(first, m, m - 1, -1);
                for (int i = 0; i < m; i++) {
                    doc.is("service " + i + " of " + m, below.ring(i), first + i);
                }
                doc.is("no more than " + m, below.ring(m), NONE);
                doc.is("0 is not below 0", ring(first, m, m - 1, 0).ring(0), NONE);
                doc.is("1 is not below 0", ring(first, m, m - 1, 1).ring(0), NONE);
            }
        }
        TracePost x = new TracePost();
        tell(x, 0, 0, 1, -LAST);
        tell(x, 0, 1, 2, -LAST);
        doc.is("below 0, but a bound is not there", x.ring(0), NONE);
        tell(x, 0, 2, 0, LAST);
        doc.is("a sum of -10^9", x.ring(2), 2);
        TracePost y = new TracePost();
        tell(y, 0, 0, 1, LAST);
        tell(y, 0, 1, 0, -LAST);
        doc.is("far apart, a sum of 0", y.ring(0), NONE);
        tell(y, 0, 0, 1, LAST - 1);
        doc.is("far apart, a sum of -1", y.ring(0), 0);
    }

    private static void theShortestRing() {
        doc.by("THE RING is that with the least m");
        for (int m = 2; m <= 5; m++) {
            // A long ring of all six from 0 on, and a short one of the last m.
            TracePost x = ring(0, 6, 0, -LAST);
            doc.is("six", x.ring(5), 5);
            tell(x, 1, 5, 6 - m, -1);
            doc.is("its first", x.ring(0), 6 - m);
            doc.is("its last", x.ring(m - 1), 5);
            doc.is("no more", x.ring(m), NONE);
            x.drop(1);
            tell(x, 1, 5, 6 - m, 0);
            doc.is("a short one with the sum 0 is none", x.ring(5), 5);
        }
    }

    private static void theLeastRing() {
        doc.by("of these that with the least x1, then the least x2, and so on.");
        TracePost x = ring(4, 2, 0, -9);
        doc.is("4, 5", x.ring(0), 4);
        tell(x, 1, 3, 5, -1);
        tell(x, 1, 5, 3, 0);
        doc.is("the least first: 3, 5", x.ring(0), 3);
        doc.is("3, 5", x.ring(1), 5);
        tell(x, 2, 3, 4, -1);
        tell(x, 2, 4, 3, 0);
        doc.is("the least second: 3, 4", x.ring(1), 4);
        tell(x, 3, 0, 1, 0);
        tell(x, 3, 1, 0, 0);
        doc.is("0, 1 have the sum 0", x.ring(0), 3);
        TracePost y = new TracePost();
        tell(y, 0, 0, 4, -1);
        tell(y, 0, 4, 1, -9);
        tell(y, 0, 1, 0, 0);
        doc.is("0, 4, 1", y.ring(1), 4);
        tell(y, 0, 0, 2, -1);
        tell(y, 0, 2, 5, 0);
        tell(y, 0, 5, 0, 0);
        doc.is("0, 2, 5", y.ring(1), 2);
        doc.is("0, 2, 5", y.ring(2), 5);
        lateDifferences();
    }

    private static void lateDifferences() {
        TracePost x = new TracePost();
        int[][] rows = {{0, 1, 5, 2}, {0, 1, 3, 4}};
        for (int[] row : rows) {
            for (int i = 0; i < 4; i++) {
                tell(x, 0, row[i], row[(i + 1) % 4], i == 3 ? -1 : 0);
            }
        }
        int[] want = {0, 1, 3, 4, NONE};
        for (int i = 0; i <= 4; i++) {
            doc.is("the least third, " + i, x.ring(i), want[i]);
        }
        TracePost y = new TracePost();
        for (int last = 5; last >= 3; last--) {
            int[] row = {0, 2, 1, last};
            for (int i = 0; i < 4; i++) {
                tell(y, 0, row[i], row[(i + 1) % 4], i == 3 ? last == 3 ? 0 : -1 : 0);
            }
        }
        int[] fourth = {0, 2, 1, 4, NONE};
        for (int i = 0; i <= 4; i++) {
            doc.is("the least fourth that has a sum below 0, " + i, y.ring(i), fourth[i]);
        }
    }

    private static void far() {
        doc.by("FAR(x, y) is the least sum of BOUNDS from x on, by any SERVICES, to y (x not y), if there is one.");
        for (int size = 1; size <= 5; size++) {
            TracePost x = new TracePost();
            for (int i = 0; i < size; i++) {
                tell(x, 0, i, i + 1, LAST);
            }
            doc.is("a sum of " + size, x.skew(0, size, 1), size * LAST);
            doc.is("no way back", x.skew(size, 0, 1), NO);
            doc.is("not to those beyond", size == 5 ? NO : x.skew(0, size + 1, 1), NO);
            doc.is("only the one bound is told", x.bound(0, size), size == 1 ? LAST : NO);
        }
        TracePost y = new TracePost();
        for (int i = 5; i > 0; i--) {
            tell(y, 0, i, i - 1, -LAST);
        }
        doc.is("five times the least", y.skew(5, 0, 1), -5 * LAST);
        long[] direct = {10, 9, 8};
        for (long n : direct) {
            TracePost x = told(1, 3, n);
            tell(x, 0, 1, 5, 4);
            tell(x, 0, 5, 3, 5);
            doc.is("by another one 9, by none " + n, x.skew(1, 3, 1), Math.min(n, 9));
        }
        for (int by = 0; by < 6; by++) {
            int from = (by + 1) % 6;
            int to = (by + 5) % 6;
            TracePost x = told(from, by, 4);
            tell(x, 0, by, to, 5);
            doc.is("by " + by, x.skew(from, to, 1), 9);
            doc.is("by " + by + ", not the other way", x.skew(from, to, 0), NO);
        }
        TracePost z = new TracePost();
        tell(z, 0, 0, 1, 1);
        tell(z, 0, 2, 3, 1);
        doc.is("the bound between is missing", z.skew(0, 3, 1), NO);
        tell(z, 0, 1, 2, 1);
        doc.is("it is there", z.skew(0, 3, 1), 3);
    }

    private static void farNotItself() {
        doc.by("(x not y)");
        TracePost x = ring(0, 6, 0, 7);
        for (int s = 0; s < 6; s++) {
            doc.is("no least of itself", x.skew(s, s, 0), NO);
            doc.is("no greatest of itself", x.skew(s, s, 1), NO);
            doc.is("no bound of itself", x.bound(s, s), NO);
        }
        doc.is("what goes round by itself is no less", x.skew(0, 1, 1), 7);
        doc.is("round the other way", x.skew(1, 0, 1), 0);
    }

    private static void skewEnds() {
        doc.by("d(x) - d(y) can be -FAR(y, x) .. FAR(x, y).");
        for (long width : new long[] {0, 1, 2}) {
            TracePost x = told(0, 1, 10 + width);
            tell(x, 0, 1, 0, -10);
            doc.is("least", x.skew(0, 1, 0), 10);
            doc.is("greatest", x.skew(0, 1, 1), 10 + width);
            doc.is("least of the other", x.skew(1, 0, 0), -10 - width);
            doc.is("greatest of the other", x.skew(1, 0, 1), -10);
        }
        TracePost x = told(0, 1, 9);
        tell(x, 0, 1, 0, -10);
        doc.is("less than nothing is left", x.skew(0, 1, 0), NO);
    }

    private static void skewRefused() {
        doc.by("NO: no end that way, they do not AGREE, x is y, no such SERVICES, what.");
        TracePost x = told(0, 1, 10);
        doc.is("an end that way", x.skew(0, 1, 1), 10);
        doc.is("no end that way", x.skew(0, 1, 0), NO);
        doc.is("an end that way", x.skew(1, 0, 0), -10);
        doc.is("no end that way", x.skew(1, 0, 1), NO);
        doc.is("no end at all", x.skew(2, 3, 0), NO);
        doc.is("x is y", x.skew(1, 1, 1), NO);
        TracePost both = told(0, 1, 10);
        tell(both, 0, 1, 0, 0);
        doc.ints("what", 0, 1, NO, what -> both.skew(0, 1, what));
        doc.is("what is an end of 0", both.skew(0, 1, 0), 0);
        tell(both, 1, 4, 5, -1);
        tell(both, 1, 5, 4, 1);
        doc.is("others are just in step", both.skew(0, 1, 1), 10);
        tell(both, 2, 4, 5, -2);
        doc.is("others do not agree", both.skew(0, 1, 1), NO);
        doc.is("least", both.skew(0, 1, 0), NO);
        both.drop(2);
        doc.is("they agree again", both.skew(0, 1, 1), 10);
    }

    private static void ringFrom0On() {
        doc.by("SERVICE i of THE RING, from 0 on. NONE: none such, or they AGREE.");
        for (int m = 2; m <= 6; m++) {
            TracePost x = ring(6 - m, m, 0, -1);
            doc.ints("i of a ring of " + m, 0, m - 1, NONE, x::ring);
            TracePost y = ring(6 - m, m, 0, 0);
            for (int i = -1; i <= 6; i++) {
                doc.is("they agree, " + i, y.ring(i), NONE);
            }
        }
        TracePost x = ring(0, 6, 0, -1);
        doc.is("the last of six", x.ring(5), 5);
        tell(x, 1, 1, 0, 0);
        doc.is("a ring of two came: the last is none such", x.ring(5), NONE);
        doc.is("the second", x.ring(1), 1);
        x.drop(0);
        x.drop(1);
        doc.is("all went: they agree", x.ring(0), NONE);
    }

    /** d(1) can be least .. greatest, by what is told of it and d(0), that is 0. */
    private static TracePost between(long least, long greatest) {
        TracePost x = told(0, 1, -least);
        tell(x, 0, 1, 0, greatest);
        return x;
    }

    private static void nearest0() {
        doc.by("each the number nearest 0 for which, with those set ahead of it, each FAR holds");
        long[][] rows = {{-1, 1, 0}, {0, 1, 0}, {-1, 0, 0}, {0, 0, 0}, {1, 1, 1}, {1, 2, 1}, {-2, -1, -1}, {-1, -1, -1}, {2, 3, 2},
            {-3, -2, -2}, {LAST, LAST, LAST}, {-LAST, -LAST, -LAST}, {-LAST, LAST, 0}, {LAST - 1, LAST, LAST - 1}};
        for (long[] r : rows) {
            TracePost x = between(r[0], r[1]);
            doc.is("how many have another d, " + r[0] + " .. " + r[1], x.put(), r[2] == 0 ? 0 : 1);
            doc.is("d(0)", x.moved(0), 0);
            doc.is("d(1) in " + r[0] + " .. " + r[1], x.moved(1), r[2]);
        }
        long[] ends = {-1, 0, 1};
        for (long n : ends) {
            TracePost least = told(0, 5, -n);
            least.put();
            doc.is("at least " + n + ", no greatest", least.moved(5), Math.max(n, 0));
            TracePost greatest = told(5, 0, n);
            greatest.put();
            doc.is("at most " + n + ", no least", greatest.moved(5), Math.min(n, 0));
        }
        doc.is("just not: nothing is put", between(1, 0).put(), STATE);
    }

    private static void nearest0AndThoseAhead() {
        doc.by("TO PUT: d(0), then d(1), ..");
        TracePost x = told(4, 5, -7);
        doc.is("one", x.put(), 1);
        doc.is("the first is nearest 0", x.moved(4), 0);
        doc.is("the second has the rest", x.moved(5), 7);
        TracePost y = new TracePost();
        for (int s = 0; s < 5; s++) {
            tell(y, 0, s, s + 1, -LAST);
        }
        doc.is("five", y.put(), 5);
        for (int s = 0; s < 6; s++) {
            doc.is("rising", y.moved(s), s * LAST);
        }
        TracePost z = new TracePost();
        for (int s = 0; s < 5; s++) {
            tell(z, 0, s + 1, s, -LAST);
        }
        doc.is("five", z.put(), 5);
        for (int s = 0; s < 6; s++) {
            doc.is("falling", z.moved(s), -s * LAST);
        }
        // d(2) is 5 or more by d(0), and at most d(1) + 3: d(1) is 2 or more by both.
        TracePost both = told(0, 2, -5);
        tell(both, 0, 2, 1, 3);
        doc.is("two", both.put(), 2);
        doc.is("d(1) leaves room for d(2)", both.moved(1), 2);
        doc.is("d(2)", both.moved(2), 5);
    }

    private static void farThroughLaterOnes() {
        doc.by("d(x) - d(y) <= FAR(x, y), d(y) - d(x) <= FAR(y, x) (there is but one).");
        TracePost x = told(0, 5, -4);
        tell(x, 0, 5, 1, 1);
        doc.is("1 by 5, that comes later, and 5", x.put(), 2);
        doc.is("d(1)", x.moved(1), 3);
        doc.is("d(5)", x.moved(5), 4);
        tell(x, 1, 5, 1, 0);
        doc.is("one step more", x.put(), 1);
        doc.is("d(1)", x.moved(1), 4);
        TracePost y = told(1, 5, -4);
        tell(y, 0, 5, 0, 1);
        doc.is("below 0", y.put(), 2);
        doc.is("d(1)", y.moved(1), -3);
        doc.is("d(5): -3 + 4 at least, 1 at most", y.moved(5), 1);
    }

    private static void movedAsPutLatest() {
        doc.by("MOVED times are those told and d of the SERVICE, as it was PUT latest (at first 0).");
        TracePost x = told(0, 1, -10);
        doc.is("at first", x.moved(1), 0);
        doc.is("at first", x.time(0, 2, false, true), 0);
        x.put();
        doc.is("put", x.moved(1), 10);
        doc.is("put", x.time(0, 2, false, true), 10);
        tell(x, 1, 0, 1, -20);
        doc.is("told, not put", x.moved(1), 10);
        x.attempt(1, 99);
        doc.is("tried, not put", x.moved(1), 10);
        tell(x, 2, 1, 0, 19);
        doc.is("they do not agree", x.put(), STATE);
        doc.is("as before", x.time(0, 2, false, true), 10);
        x.drop(2);
        doc.is("put again", x.put(), 1);
        doc.is("put again", x.time(0, 2, false, true), 20);
        x.drop(1);
        x.drop(0);
        doc.is("what told it is gone", x.moved(1), 20);
        x.report(3, 1, 0, 1, 0, SPAN, 5, 6);
        doc.is("what came later is moved too", x.time(3, 1, true, true), 26);
        x.put();
        doc.is("put once more", x.time(3, 1, true, true), 6);
    }

    private static void putAnswers() {
        doc.by("It is PUT: how many SERVICES have another d than before. STATE: they do not AGREE.");
        TracePost x = new TracePost();
        doc.is("nothing told", x.put(), 0);
        for (int s = 1; s < 6; s++) {
            tell(x, s, 0, s, -s);
            doc.is("one more", x.put(), 1);
            doc.is("no more", x.put(), 0);
        }
        for (int s = 1; s < 6; s++) {
            x.drop(s);
        }
        doc.is("all but 0", x.put(), 5);
        doc.is("a sum of 0", ring(0, 6, 0, 0).put(), 0);
        doc.is("a sum of -1", ring(0, 6, 0, -1).put(), STATE);
    }

    private static void movedOfAService() {
        doc.by("d of a SERVICE. NO.");
        TracePost x = ring(0, 6, 0, 0);
        for (int s = 0; s < 6; s++) {
            doc.is("d", x.moved(s), 0);
        }
        doc.is("beyond", x.moved(6), NO);
        doc.is("below", x.moved(-1), NO);
    }

    private static void attemptLimits() {
        doc.by("NONE; BAD: v is not -10^10 .. 10^10.");
        doc.longs("v", -MOST, MOST, BAD, v -> new TracePost().attempt(3, v));
        for (int s : new int[] {-1, 6, Integer.MIN_VALUE, Integer.MAX_VALUE}) {
            doc.is("none is ahead of bad", new TracePost().attempt(s, MOST + 1), NONE);
            doc.is("none, v is fine", new TracePost().attempt(s, MOST), NONE);
        }
        TracePost x = told(0, 1, 0);
        x.attempt(0, 1);
        doc.is("refused", x.attempt(0, -MOST - 1), BAD);
        doc.is("what was tried is tried still", x.check(), 1);
    }

    private static void attemptedOnes() {
        doc.by("d of a SERVICE is tried as v (those that are not tried are 0): how many are tried.");
        TracePost x = new TracePost();
        for (int s = 0; s < 6; s++) {
            doc.is("one more", x.attempt(s, 0), s + 1);
            doc.is("the same again", x.attempt(s, s), s + 1);
        }
        doc.is("all", x.count(10), 6);
        TracePost y = told(2, 3, 0);
        doc.is("not tried: 0 and 0", y.check(), NONE);
        y.attempt(3, -1);
        doc.is("0 is more than -1", y.check(), 15);
        y.attempt(3, 0);
        doc.is("tried as 0", y.check(), NONE);
        y.attempt(2, 5);
        y.attempt(2, 0);
        doc.is("the latest is tried", y.check(), NONE);
        tell(y, 1, 2, 3, -4);
        y.put();
        doc.is("what is put is not tried", y.check(), 15);
    }

    private static void checkJust() {
        doc.by("Whether all that is told is so by what is tried");
        for (long n : new long[] {-LAST, -1, 0, 1, LAST}) {
            for (long off : new long[] {-1, 0, 1}) {
                TracePost x = told(1, 4, n);
                x.attempt(1, 70 + n + off);
                x.attempt(4, 70);
                doc.is("bound " + n + ", off by " + off, x.check(), off > 0 ? 10 : NONE);
            }
        }
        TracePost x = told(1, 4, LAST);
        x.attempt(1, MOST);
        x.attempt(4, -MOST);
        doc.is("as far off as can be", x.check(), 10);
        x.attempt(1, -MOST);
        x.attempt(4, MOST);
        doc.is("as far on the other side as can be", x.check(), NONE);
        TracePost ring = ring(0, 6, 0, -1);
        doc.is("they do not agree: one is not so", ring.check(), 1);
        doc.is("nothing told", new TracePost().check(), NONE);
    }

    private static void checkFirst() {
        doc.by("else the first SERVICE x, then y, 6 x + y, of which BOUND(x, y) is not so.");
        TracePost x = new TracePost();
        int trace = 0;
        int[][] falling = {{5, 4}, {5, 0}, {4, 5}, {3, 2}, {1, 5}, {1, 0}, {0, 5}, {0, 1}};
        for (int[] row : falling) {
            tell(x, trace, row[0], row[1], -1);
            doc.is("the first of " + (trace + 1), x.check(), 6 * row[0] + row[1]);
            trace++;
        }
        x.attempt(0, -1);
        doc.is("0 is so now, 1 to 0 is not", x.check(), 6);
        x.attempt(0, -1);
        x.attempt(1, -2);
        doc.is("0 to 1 is not so", x.check(), 1);
    }

    private static void checkEndsTheTry() {
        doc.by("(nothing is tried then any more)");
        TracePost x = told(0, 1, 0);
        x.attempt(0, 1);
        doc.is("not so", x.check(), 1);
        doc.is("none tried", x.count(10), 0);
        doc.is("so by 0", x.check(), NONE);
        x.attempt(5, 1);
        doc.is("so", x.check(), NONE);
        doc.is("none tried", x.count(10), 0);
        doc.is("one anew", x.attempt(5, 1), 1);
        for (int s = 0; s < 6; s++) {
            x.attempt(s, 3);
        }
        x.check();
        for (int s = 0; s < 6; s++) {
            doc.is("each anew", x.attempt(s, 3), s + 1);
        }
    }
}
