import java.util.Random;

/** Runs of 512 calls, each answer compared with the model's. The seeds are fixed, so every run of the test is alike. */
public final class RandomRunsTest {
    private static final int[] ODD = {-1, -2, -3, 0, 1, 2, 5, 6, 7, 8, 9, 11, 12, 13, 19, 20, 30, 31, 100, 101, 999, 1000,
        1000000000, 1000000001, Integer.MIN_VALUE, Integer.MAX_VALUE};

    private final Random random;
    private final Due due;
    private final String run;
    private final TracePost post = new TracePost();
    private final Model model = new Model();
    private final int traces, numbers, services, acts;
    private final long times;
    /** How far each clock goes ahead, where the run's pairs are to agree mostly. */
    private final long[] ahead = new long[6];
    private final int noise, oddness, reports, closes;
    private final boolean round;

    private RandomRunsTest(long seed, Due due) {
        this.random = new Random(seed);
        this.due = due;
        this.run = "seed " + seed + " ";
        traces = pick(1, 2, 4, 20);
        numbers = pick(4, 9, 30, 60, 999);
        services = pick(2, 3, 6, 6);
        acts = pick(1, 2, 8);
        times = pick(3, 12, 100, 5000, 1000000000);
        noise = pick(0, 0, 2, 30, 100);
        oddness = pick(0, 3, 10);
        reports = pick(30, 60, 90);
        closes = pick(1, 4, 10);
        round = chance(20);
        for (int i = 0; i < 6; i++) {
            ahead[i] = random.nextLong(times / 2 + 1);
        }
    }

    private int pick(int... of) {
        return of[random.nextInt(of.length)];
    }

    private boolean chance(int percent) {
        return random.nextInt(100) < percent;
    }

    /** A number below n, or now and then an odd one. */
    private int below(int n) {
        return chance(oddness) ? ODD[random.nextInt(ODD.length)] : random.nextInt(n);
    }

    private int trace() {
        return below(traces);
    }

    private int number() {
        return chance(oddness) ? ODD[random.nextInt(ODD.length)] : 1 + random.nextInt(numbers);
    }

    private void is(String call, long got, long want) {
        due.is(run + call, got, want);
    }

    private void tell(int t, int n, int parent, int service, int act, int kind, long begin, long end) {
        is("report(" + t + ", " + n + ", " + parent + ", " + service + ", " + act + ", " + kind + ", " + begin + ", " + end + ")",
            post.report(t, n, parent, service, act, kind, begin, end),
            model.report(t, n, parent, service, act, kind, begin, end));
    }

    private void anyReport() {
        long begin = random.nextLong(times + 1);
        long end = begin + random.nextLong(times - begin + 1);
        if (chance(oddness)) {
            end = pick(-1, 0, 1000000000, 1000000001);
        }
        int kind = chance(oddness) ? ODD[random.nextInt(ODD.length)] : random.nextInt(5) + (chance(10) ? 8 : 0);
        int parent = chance(20) ? 0 : number();
        tell(trace(), number(), parent, below(services), below(acts), kind, begin, end);
    }

    /** A span inside another one that is there, by clocks that go ahead. */
    private void kidReport() {
        int t = random.nextInt(traces);
        int parent = numberThere(t);
        if (parent == 0 || chance(5)) {
            rootReport(t);
            return;
        }
        int over = model.span(t, parent, 3);
        int x = model.span(t, parent, 1);
        int y = over == 1 || over == 3 ? random.nextInt(services) : x;
        int kind = over == 1 ? 2 : over == 3 ? 4 : pick(0, 1, 1, 3);
        long low = model.time(t, parent, false, false) - ahead[x];
        long high = model.time(t, parent, true, false) - ahead[x];
        long begin = low + random.nextLong(high - low + 1);
        long end = begin + random.nextLong(high - begin + 1);
        if (kind == 4) {
            begin = high + random.nextLong(times / 4 + 1);
            end = begin + random.nextLong(times / 4 + 1);
        }
        if (chance(noise)) {
            begin -= random.nextLong(times / 4 + 1);
        }
        tell(t, newNumber(t), parent, y, random.nextInt(acts), kind + (chance(5) ? 8 : 0), begin + ahead[y], end + ahead[y]);
    }

    /** A number that is there, 0 if none; late ones more often, so that trees grow deep. */
    private int numberThere(int t) {
        int found = 0;
        for (int look = 0; look < 60 && found == 0; look++) {
            int n = 1 + random.nextInt(numbers);
            found = model.span(t, n, 0) == TracePost.NONE ? 0 : n;
        }
        int kids = found == 0 ? 0 : model.span(t, found, 8);
        return kids > 0 && chance(70) ? model.kid(t, found, random.nextInt(kids)) : found;
    }

    /** A number that is not there, if a few looks find one. */
    private int newNumber(int t) {
        int n = 1 + random.nextInt(numbers);
        for (int look = 0; look < 20 && model.span(t, n, 0) != TracePost.NONE; look++) {
            n = 1 + random.nextInt(numbers);
        }
        return n;
    }

    /** Posts from each service to the next one only, so that rings, if there are some, are long. */
    private void roundReport() {
        int t = random.nextInt(traces);
        int n = newNumber(t);
        int x = random.nextInt(services);
        int y = (x + 1) % services;
        long end = times / 2 + ahead[x];
        tell(t, n, 0, x, random.nextInt(acts), 3, end - random.nextLong(times / 2 + 1), end);
        long begin = times / 2 + ahead[y] + random.nextLong(3) - (chance(noise) ? 1 : 0);
        tell(t, newNumber(t), n, y, random.nextInt(acts), 4, begin, Math.min(begin + random.nextLong(5), 1000000000L));
    }

    private void rootReport(int t) {
        long begin = random.nextLong(times / 4 + 1);
        tell(t, 1 + random.nextInt(numbers), chance(80) ? 0 : 1 + random.nextInt(numbers), random.nextInt(services),
            random.nextInt(acts), pick(0, 1, 1, 3), begin, begin + random.nextLong(times / 2 + 1));
    }

    /** The same once more, or a little other than it was. */
    private void tellAgain() {
        int t = random.nextInt(traces), n = numberThere(t);
        if (n == 0) {
            kidReport();
            return;
        }
        int[] of = new int[5];
        for (int i = 0; i < 5; i++) {
            of[i] = model.span(t, n, i) + (chance(12) ? pick(-1, 1) : 0);
        }
        long begin = model.time(t, n, false, false) + (chance(12) ? pick(-1, 1) : 0);
        long end = model.time(t, n, true, false) + (chance(12) ? pick(-1, 1) : 0);
        tell(t, n, of[0], of[1], of[2], of[3] + 8 * of[4], begin, end);
    }

    private void changeOther() {
        switch (random.nextInt(10)) {
            case 0, 1 -> is("put()", post.put(), model.put());
            case 2, 3 -> {
                int s = below(services);
                long v = chance(oddness) ? pick(-1, 1) * (10000000000L + random.nextInt(2)) : random.nextLong(2 * times + 1) - times;
                is("attempt(" + s + ", " + v + ")", post.attempt(s, v), model.attempt(s, v));
            }
            case 4 -> is("check()", post.check(), model.check());
            case 5 -> {
                int a = below(acts), ticks = chance(oddness) ? ODD[random.nextInt(ODD.length)] : random.nextInt((int) times + 1);
                is("slow(" + a + ", " + ticks + ")", post.slow(a, ticks), model.slow(a, ticks));
            }
            case 6 -> {
                int n = below(3);
                is("quota(" + n + ")", post.quota(n), model.quota(n));
            }
            case 7 -> {
                if (chance(30)) {
                    int t = trace();
                    is("drop(" + t + ")", post.drop(t), model.drop(t));
                }
            }
            default -> {
                if (chance(closes * 6)) {
                    int t = trace();
                    is("close(" + t + ")", post.close(t), model.close(t));
                }
            }
        }
    }

    private void ask() {
        int t = trace(), n = number(), i = below(4), x = below(6), y = below(6), a = below(acts);
        switch (random.nextInt(17)) {
            case 0 -> is("spans(" + t + ")", post.spans(t), model.spans(t));
            case 1, 2 -> {
                int w = below(9);
                is("span(" + t + ", " + n + ", " + w + ")", post.span(t, n, w), model.span(t, n, w));
            }
            case 3 -> is("kid(" + t + ", " + n + ", " + i + ")", post.kid(t, n, i), model.kid(t, n, i));
            case 4 -> is("root(" + t + ", " + i + ")", post.root(t, i), model.root(t, i));
            case 5 -> {
                int w = below(5);
                is("trace(" + t + ", " + w + ")", post.trace(t, w), model.trace(t, w));
            }
            case 6 -> {
                boolean e = random.nextBoolean(), m = random.nextBoolean();
                is("time(" + t + ", " + n + ", " + e + ", " + m + ")", post.time(t, n, e, m), model.time(t, n, e, m));
            }
            case 7 -> is("bound(" + x + ", " + y + ")", post.bound(x, y), model.bound(x, y));
            case 8 -> {
                int w = below(2);
                is("skew(" + x + ", " + y + ", " + w + ")", post.skew(x, y, w), model.skew(x, y, w));
            }
            case 9 -> is("ring(" + i + ")", post.ring(i), model.ring(i));
            case 10 -> is("moved(" + x + ")", post.moved(x), model.moved(x));
            case 11 -> {
                is("way(" + t + ", " + i + ")", post.way(t, i), model.way(t, i));
                wayParts();
            }
            case 12 -> is("share(" + t + ", " + n + ")", post.share(t, n), model.share(t, n));
            case 13 -> {
                is("kept(" + i + ")", post.kept(i), model.kept(i));
                is("stands(" + t + ")", post.stands(t), model.stands(t));
            }
            case 14 -> {
                int step = below(33) - 2;
                is("total(" + x + ", " + a + ", " + step + ")", post.total(x, a, step), model.total(x, a, step));
            }
            case 15 -> {
                int p = chance(oddness) ? ODD[random.nextInt(ODD.length)] : 1 + random.nextInt(100);
                is("percent(" + x + ", " + a + ", " + p + ")", post.percent(x, a, p), model.percent(x, a, p));
            }
            default -> {
                int w = below(3), c = below(11);
                is("flow(" + x + ", " + y + ", " + w + ")", post.flow(x, y, w), model.flow(x, y, w));
                is("count(" + c + ")", post.count(c), model.count(c));
            }
        }
    }

    private void wayParts() {
        for (int i = -1; i < 6; i++) {
            int w = below(3);
            is("part(" + i + ", " + w + ")", post.part(i, w), model.part(i, w));
        }
    }

    private void go() {
        for (int call = 0; call < 512; call++) {
            if (chance(reports / 2)) {
                switch (random.nextInt(noise >= 30 ? 3 : 6)) {
                    case 0 -> {
                        if (noise > 0 || chance(20)) {
                            anyReport();
                        }
                    }
                    case 1 -> tellAgain();
                    default -> {
                        if (round) {
                            roundReport();
                        } else {
                            kidReport();
                        }
                    }
                }
            } else if (chance(20)) {
                changeOther();
            } else {
                ask();
            }
        }
        lookAtAll();
    }

    /** Every answer that changes nothing, so that what a run left behind cannot hide. */
    private void lookAtAll() {
        for (int c = -1; c <= 11; c++) {
            is("count(" + c + ") at the end", post.count(c), model.count(c));
        }
        for (int x = 0; x < 6; x++) {
            is("ring(" + x + ") at the end", post.ring(x), model.ring(x));
            is("moved(" + x + ") at the end", post.moved(x), model.moved(x));
            for (int y = 0; y < 6; y++) {
                is("bound(" + x + ", " + y + ") at the end", post.bound(x, y), model.bound(x, y));
                is("skew(" + x + ", " + y + ", 0) at the end", post.skew(x, y, 0), model.skew(x, y, 0));
                is("skew(" + x + ", " + y + ", 1) at the end", post.skew(x, y, 1), model.skew(x, y, 1));
                for (int w = 0; w < 3; w++) {
                    is("flow(" + x + ", " + y + ", " + w + ") at the end", post.flow(x, y, w), model.flow(x, y, w));
                }
            }
            for (int a = 0; a < acts; a++) {
                for (int step = -2; step <= 30; step++) {
                    is("total(" + x + ", " + a + ", " + step + ") at the end", post.total(x, a, step), model.total(x, a, step));
                }
                for (int p = 1; p <= 100; p += 11) {
                    is("percent(" + x + ", " + a + ", " + p + ") at the end", post.percent(x, a, p), model.percent(x, a, p));
                }
            }
        }
        for (int t = 0; t < traces; t++) {
            lookAt(t);
        }
    }

    private void lookAt(int t) {
        is("spans(" + t + ") at the end", post.spans(t), model.spans(t));
        is("kept(" + t + ") at the end", post.kept(t), model.kept(t));
        is("stands(" + t + ") at the end", post.stands(t), model.stands(t));
        for (int w = 0; w < 5; w++) {
            is("trace(" + t + ", " + w + ") at the end", post.trace(t, w), model.trace(t, w));
        }
        for (int i = 0; i < 31; i++) {
            is("root(" + t + ", " + i + ") at the end", post.root(t, i), model.root(t, i));
            int parts = model.way(t, i);
            is("way(" + t + ", " + i + ") at the end", post.way(t, i), parts);
            for (int p = 0; p <= parts; p++) {
                for (int w = 0; w < 3; w++) {
                    is("part(" + p + ", " + w + ") at the end", post.part(p, w), model.part(p, w));
                }
            }
        }
        for (int n = 1; n <= numbers; n++) {
            if (model.span(t, n, 0) == TracePost.NONE) {
                continue;
            }
            for (int w = 0; w < 9; w++) {
                is("span(" + t + ", " + n + ", " + w + ") at the end", post.span(t, n, w), model.span(t, n, w));
            }
            for (int i = 0; i < 4; i++) {
                is("kid(" + t + ", " + n + ", " + i + ") at the end", post.kid(t, n, i), model.kid(t, n, i));
            }
            is("share(" + t + ", " + n + ") at the end", post.share(t, n), model.share(t, n));
        }
    }

    private static final int[] seen = new int[40];

    private void noteWhatWasSeen() {
        seen[0] += model.count(6);
        seen[1] += model.count(6) == 1 && model.count(5) > 3 ? 1 : 0;
        for (int i = 2; i < 7; i++) {
            seen[i] += model.ring(i - 1) != TracePost.NONE && model.ring(i) == TracePost.NONE ? 1 : 0;
        }
        seen[7] += model.count(7);
        seen[8] += model.count(8);
        seen[9] += model.count(9);
        for (int t = 0; t < 20; t++) {
            seen[10] += model.trace(t, 2) > 0 ? 1 : 0;
            seen[11] += model.spans(t) == 30 ? 1 : 0;
            seen[12] = Math.max(seen[12], model.stands(t));
            for (int i = 0; model.way(t, i) >= 0; i++) {
                seen[13] = Math.max(seen[13], model.way(t, i));
            }
            for (int n = 1; n < 1000; n++) {
                seen[14] = Math.max(seen[14], model.span(t, n, 6));
            }
        }
        seen[15] += model.count(0) == 200 ? 1 : 0;
        for (int s = 0; s < 6; s++) {
            seen[16] += model.moved(s) != 0 ? 1 : 0;
        }
    }

    public static void main(String[] args) {
        int runs = args.length > 0 ? Integer.parseInt(args[0]) : 400;
        Due due = new Due("random runs");
        for (int seed = 1; seed <= runs; seed++) {
            RandomRunsTest one = new RandomRunsTest(seed, due);
            one.go();
            one.noteWhatWasSeen();
        }
        System.out.println("seen: agree " + seen[0] + ", of these with pairs " + seen[1] + ", rings of 2 to 6 " + seen[2] + " " + seen[3]
            + " " + seen[4] + " " + seen[5] + " " + seen[6] + ", kept " + seen[7] + ", missed " + seen[8] + ", closed " + seen[9]
            + ", traces with lost spans " + seen[10] + ", full traces " + seen[11] + ", most stood for " + seen[12]
            + ", most parts " + seen[13] + ", deepest " + seen[14] + ", full posts " + seen[15] + ", clocks moved " + seen[16]);
        due.end();
    }
}
