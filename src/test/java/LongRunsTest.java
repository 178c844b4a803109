/** Runs of just 512 calls: what holds at first holds at the last of them, too. Each call's answer is looked at. */
public final class LongRunsTest {
    private static final long NO = TracePost.NO;
    private static final int NONE = TracePost.NONE, BAD = TracePost.BAD, STATE = TracePost.STATE, FULL = TracePost.FULL;
    private static final int SPAN = 0, ASK = 1, SERVE = 2, POST = 3, TAKE = 4, FAILED = 8;
    private static final int CALLS = 512;
    private static final long LAST = 1000000000L;

    private static final Quotes doc = new Quotes("long runs");

    private final TracePost x = new TracePost();
    private final String run;
    private int calls;

    private LongRunsTest(String run) {
        this.run = run;
    }

    public static void main(String[] args) {
        doc.by("An object is used for at most 512 calls after it has been made; what later calls answer is free.");
        new LongRunsTest("alike").alike();
        new LongRunsTest("ever less").everLess();
        new LongRunsTest("ever less in totals").everLessInTotals();
        new LongRunsTest("ever greater").everGreater();
        new LongRunsTest("late").late();
        new LongRunsTest("full").full();
        new LongRunsTest("bad").bad();
        new LongRunsTest("dropped").dropped();
        new LongRunsTest("pairs that come and go").pairsComeAndGo();
        new LongRunsTest("put to and fro").putToAndFro();
        new LongRunsTest("tried").tried();
        new LongRunsTest("ways").ways();
        new LongRunsTest("two hundred").twoHundred();
        new LongRunsTest("closed").closed();
        new LongRunsTest("settings").settings();
        new LongRunsTest("rounds").rounds();
        doc.end();
    }

    private void due(String what, long got, long want) {
        calls++;
        doc.is(run + ", call " + calls + ", " + what, got, want);
    }

    /** The rest of the 512 calls all ask the same. */
    private int callsLeft() {
        return CALLS - calls;
    }

    /** No call beyond may throw, though its answer is free. */
    private void end() {
        doc.is(run + ", calls", calls, CALLS);
        Snapshot.of(x);
    }

    private int plain(int trace, int number) {
        return x.report(trace, number, 0, 0, 0, SPAN, 5, 6);
    }

    private void alike() {
        due("new", plain(0, 1), 1);
        for (int i = 0; i < 510; i++) {
            due("alike", plain(0, 1), 0);
        }
        due("counted", x.count(1), 510);
        end();
    }

    private void everLess() {
        due("new", x.report(0, 1, 0, 0, 0, SPAN, 510, 600), 1);
        for (int begin = 509; begin >= 0; begin--) {
            due("less", x.report(0, 1, 0, 0, 0, SPAN, begin, 600), 2);
        }
        due("counted", x.count(2), 510);
        end();
    }

    private void everLessInTotals() {
        due("new", x.report(0, 1, 0, 0, 0, SPAN + FAILED, 510, LAST), 1);
        for (int begin = 509; begin >= 3; begin--) {
            due("less", x.report(0, 1, 0, 0, 0, SPAN + FAILED, begin, LAST), 2);
        }
        due("one", x.total(0, 0, -1), 1);
        due("one failed", x.total(0, 0, -2), 1);
        due("one in its step", x.total(0, 0, 30), 1);
        due("none was dropped", x.count(3), 0);
        end();
    }

    private void everGreater() {
        due("new", x.report(0, 1, 0, 0, 0, SPAN, 0, 0), 1);
        for (int end = 1; end <= 509; end++) {
            due("greater", x.report(0, 1, 0, 0, 0, SPAN, 0, end), 3);
        }
        due("counted", x.count(2), 509);
        due("the least stays", x.time(0, 1, true, false), 0);
        end();
    }

    private void late() {
        due("new", plain(0, 1), 1);
        due("closed", x.close(0), 3);
        for (int i = 1; i <= 508; i++) {
            due("late", plain(0, i), STATE);
        }
        due("closed", x.close(0), STATE);
        due("counted", x.count(4), 508);
        end();
    }

    private void full() {
        for (int n = 1; n <= 30; n++) {
            due("new", plain(0, n), 1);
        }
        for (int n = 31; n <= 510; n++) {
            due("full", plain(0, n), FULL);
        }
        due("spans", x.spans(0), 30);
        due("totals", x.total(0, 0, -1), 30);
        end();
    }

    private void bad() {
        for (int i = 0; i < 508; i++) {
            due("bad", x.report(0, 1000 + i, 0, 0, 0, SPAN, 5, 6), BAD);
        }
        due("there is none", x.count(0), 0);
        due("new", plain(0, 1), 1);
        due("closed", x.close(0), 3);
        due("none was late", x.count(4), 0);
        end();
    }

    /** 480 spans in all: 4 of no length, 475 of length 1, one as long as can be. */
    private void dropped() {
        for (int round = 0; round < 16; round++) {
            for (int n = 1; n <= 30; n++) {
                int at = 30 * round + n;
                long length = at <= 4 ? 0 : at == 480 ? LAST : 1;
                due("new", x.report(round, n, 0, 5, 7, round % 2 == 0 ? SPAN : SPAN + FAILED, 0, length), 1);
            }
            due("dropped", x.drop(round), 30);
        }
        due("all", x.total(5, 7, -1), 480);
        due("failed", x.total(5, 7, -2), 240);
        due("of no length", x.total(5, 7, 0), 4);
        due("of length 1", x.total(5, 7, 1), 475);
        due("as long as can be", x.total(5, 7, 30), 1);
        due("4 of 480 are not 1 percent", x.percent(5, 7, 1), 1);
        due("479 of 480 are 99 percent", x.percent(5, 7, 99), 1);
        due("479 of 480 are not 100 percent", x.percent(5, 7, 100), 30);
        due("dropped", x.count(3), 480);
        due("there", x.count(0), 0);
        for (int left = callsLeft(); left > 0; left--) {
            due("all, still", x.total(5, 7, -1), 480);
        }
        end();
    }

    private void pairsComeAndGo() {
        for (int round = 0; round < 73; round++) {
            int t = round % 20;
            int from = round % 6;
            int to = (round + 1) % 6;
            due("ask", x.report(t, 1, 0, from, 0, ASK, 10, 20), 1);
            due("serve", x.report(t, 2, 1, to, 0, SERVE, 10, 20 + round % 2), 1);
            due("a pair", x.count(5), 1);
            due("bound", x.bound(to, from), -(round % 2));
            due("agree", x.count(6), 1 - round % 2);
            due("dropped", x.drop(t), 2);
            due("no bound", x.bound(from, to), NO);
        }
        due("they agree", x.ring(0), NONE);
        end();
    }

    private void putToAndFro() {
        for (int round = 0; round < 85; round++) {
            int y = 1 + round % 5;
            due("post", x.report(0, 1, 0, 0, 0, POST, 0, 10 + round), 1);
            due("take", x.report(0, 2, 1, y, 0, TAKE, 0, 10), 1);
            due("put", x.put(), 1);
            due("moved", x.time(0, 2, true, true), 20 + round);
            due("dropped", x.drop(0), 2);
            due("put back", x.put(), 1);
        }
        due("d", x.moved(5), 0);
        due("none has another", x.put(), 0);
        end();
    }

    private void tried() {
        due("post", x.report(0, 1, 0, 3, 0, POST, 0, 10), 1);
        due("take", x.report(0, 2, 1, 2, 0, TAKE, 12, 20), 1);
        for (int round = 0; round < 127; round++) {
            due("one", x.attempt(3, 100 + round), 1);
            due("two", x.attempt(2, 98 + round - round % 2), 2);
            due("two still", x.attempt(3, 100 + round), 2);
            due("so or not", x.check(), round % 2 == 0 ? NONE : 3 * 6 + 2);
        }
        due("none tried", x.count(10), 0);
        due("so by 0", x.check(), NONE);
        end();
    }

    /** A way of 59 parts told again and again, with a short one between. */
    private void ways() {
        due("root", x.report(0, 1, 0, 0, 0, SPAN, 0, 1000), 1);
        for (int n = 2; n <= 30; n++) {
            due("kid", x.report(0, n, 1, 0, 0, SPAN, 10L * n, 10L * n + 5), 1);
        }
        due("another root", plain(1, 7), 1);
        for (int round = 0; round < 7; round++) {
            due("short", x.way(1, 0), 1);
            due("its part", x.part(0, 0), 7);
            due("no more", x.part(1, 0), NO);
            due("long", x.way(0, 0), 59);
            for (int i = 0; i < 59; i++) {
                due("part " + i, x.part(i, 0), i % 2 == 0 ? 1 : 2 + i / 2);
            }
            due("share", x.share(0, 30), 5);
        }
        for (int left = callsLeft(); left > 0; left--) {
            due("as it was then", x.part(58, 2), 1000);
        }
        end();
    }

    private void twoHundred() {
        for (int n = 1; n <= 10; n++) {
            for (int t = 0; t < 20; t++) {
                due("new", x.report(t, n, n - 1, t % 6, t % 8, SPAN, n, 100 - n), 1);
            }
        }
        due("full", plain(0, 11), FULL);
        for (int t = 0; t < 20; t++) {
            due("deepest", x.span(t, 10, 6), 9);
            due("its root", x.span(t, 10, 7), 1);
            due("parts", x.way(t, 0), 19);
            due("share", x.share(t, 10), 80);
            due("closed", x.close(t), 3);
            due("kept", x.kept(t), t);
            due("late", plain(t, 11), STATE);
            due("stands", x.stands(t), 1);
            due("dropped", x.drop(t), 10);
            due("kept still", x.trace(t, 4), 1);
        }
        due("late", x.count(4), 20);
        due("dropped", x.count(3), 200);
        for (int left = callsLeft(); left > 0; left--) {
            due("there", x.count(0), 0);
        }
        end();
    }

    /** Each of the twenty is closed as the same, and asked of again and again. */
    private void closed() {
        for (int t = 0; t < 20; t++) {
            due("new", plain(t, 1), 1);
            due("closed", x.close(t), t == 0 ? 3 : 0);
            due("stands", x.stands(0), t + 1);
        }
        for (int i = 0; i < 450; i++) {
            due("closed already", x.close(i % 20), STATE);
        }
        due("closed", x.count(9), 20);
        due("stands", x.stands(0), 20);
        end();
    }

    private void settings() {
        for (int i = 0; i < 256; i++) {
            due("quota", x.quota(i % 21), i == 0 ? 1 : (i - 1) % 21);
            due("slow", x.slow(i % 8, i), i < 8 ? 0 : i - 8);
        }
        end();
    }

    /** A chain of thirty that goes round and is broken, again and again. */
    private void rounds() {
        for (int round = 0; round < 14; round++) {
            int t = round;
            for (int n = 1; n <= 30; n++) {
                due("new", x.report(t, n, n == 1 ? 30 : n - 1, 0, 0, SPAN, 0, 100), 1);
            }
            due("lost", x.trace(t, 2), 30);
            due("lost", x.span(t, 30, 6), BAD);
            due("less", x.report(t, 1, 0, 0, 0, SPAN, 0, 100), 2);
            due("placed", x.span(t, 30, 6), 29);
            due("parts", x.way(t, 0), 1);
            due("dropped", x.drop(t), 30);
        }
        for (int left = callsLeft(); left > 0; left--) {
            due("all that were dropped", x.count(3), 420);
        }
        end();
    }
}
