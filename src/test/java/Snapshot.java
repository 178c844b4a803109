import java.util.ArrayList;
import java.util.List;

/** All that an object answers, a line each. Asking uses the object up: the last calls change it. */
final class Snapshot {
    private final TracePost x;
    private final List<String> lines = new ArrayList<>();

    private Snapshot(TracePost x) {
        this.x = x;
    }

    static List<String> of(TracePost x) {
        Snapshot s = new Snapshot(x);
        s.parts("told");
        s.counts();
        s.clocks();
        s.totals();
        for (int t = 0; t < 20; t++) {
            s.trace(t);
        }
        s.settings();
        for (int t = 0; t < 20; t++) {
            s.lastThings(t);
        }
        return s.lines;
    }

    /** The lines that differ; the two are of the same calls. */
    static List<String> differences(List<String> a, List<String> b) {
        List<String> found = new ArrayList<>();
        for (int i = 0; i < Math.max(a.size(), b.size()); i++) {
            String one = i < a.size() ? a.get(i) : "nothing";
            String other = i < b.size() ? b.get(i) : "nothing";
            if (!one.equals(other)) {
                found.add(one + " / " + other);
            }
        }
        return found;
    }

    private void add(String call, long answer) {
        lines.add(call + " = " + answer);
    }

    private void parts(String which) {
        for (int i = 0; x.part(i, 0) != TracePost.NO; i++) {
            for (int what = 0; what < 3; what++) {
                add(which + ": part(" + i + ", " + what + ")", x.part(i, what));
            }
        }
    }

    private void counts() {
        for (int what = 0; what <= 10; what++) {
            add("count(" + what + ")", x.count(what));
        }
        for (int i = 0; i < 20; i++) {
            add("kept(" + i + ")", x.kept(i));
        }
    }

    private void clocks() {
        for (int a = 0; a < 6; a++) {
            add("moved(" + a + ")", x.moved(a));
            add("ring(" + a + ")", x.ring(a));
            for (int b = 0; b < 6; b++) {
                add("bound(" + a + ", " + b + ")", x.bound(a, b));
                for (int what = 0; what < 3; what++) {
                    add("skew(" + a + ", " + b + ", " + what + ")", x.skew(a, b, what));
                    add("flow(" + a + ", " + b + ", " + what + ")", x.flow(a, b, what));
                }
            }
        }
    }

    private void totals() {
        for (int s = 0; s < 6; s++) {
            for (int a = 0; a < 8; a++) {
                for (int step = -2; step <= 30; step++) {
                    add("total(" + s + ", " + a + ", " + step + ")", x.total(s, a, step));
                }
                for (int p = 1; p <= 100; p++) {
                    add("percent(" + s + ", " + a + ", " + p + ")", x.percent(s, a, p));
                }
            }
        }
    }

    private void trace(int t) {
        add("spans(" + t + ")", x.spans(t));
        add("stands(" + t + ")", x.stands(t));
        for (int what = 0; what < 5; what++) {
            add("trace(" + t + ", " + what + ")", x.trace(t, what));
        }
        for (int i = 0; i < 31; i++) {
            add("root(" + t + ", " + i + ")", x.root(t, i));
        }
        for (int n = 1; n <= 999; n++) {
            if (x.span(t, n, 0) != TracePost.NONE) {
                span(t, n);
            }
        }
    }

    private void span(int t, int n) {
        for (int what = 0; what < 9; what++) {
            add("span(" + t + ", " + n + ", " + what + ")", x.span(t, n, what));
        }
        for (int i = 0; i < 30; i++) {
            add("kid(" + t + ", " + n + ", " + i + ")", x.kid(t, n, i));
        }
        for (int way = 0; way < 4; way++) {
            add("time(" + t + ", " + n + ", " + way + ")", x.time(t, n, way % 2 == 1, way > 1));
        }
        add("share(" + t + ", " + n + ")", x.share(t, n));
    }

    private void settings() {
        add("check()", x.check());
        for (int a = 0; a < 8; a++) {
            int ticks = x.slow(a, 0);
            add("slow(" + a + ", 0)", ticks);
            x.slow(a, ticks);
        }
        int n = x.quota(0);
        add("quota(0)", n);
        x.quota(n);
    }

    private void lastThings(int t) {
        for (int i = 0; i < x.trace(t, 0); i++) {
            add("way(" + t + ", " + i + ")", x.way(t, i));
            parts("way(" + t + ", " + i + ")");
        }
        add("close(" + t + ")", x.close(t));
        for (int k = 0; k < 20; k++) {
            add("stands(" + k + ") after close(" + t + ")", x.stands(k));
        }
        if (t == 19) {
            add("put() at the end", x.put());
            add("missed at the end", x.count(8));
        }
    }
}
