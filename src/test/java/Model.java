import java.util.ArrayDeque;
import java.util.ArrayList;
import java.util.Arrays;
import java.util.Collections;
import java.util.HashMap;
import java.util.List;
import java.util.Map;
import java.util.TreeMap;
import java.util.TreeSet;

/**
 * The document said again as slowly and literally as can be, to hold BeatBench against: sets tried one by one, rounds
 * told one by one, sums road by road. A call that answers a boolean answers 1 or 0 here.
 */
final class Model {
    static final long NONE = -1;
    int status = 0;
    private final long[][] sheets = new long[4][];
    private final int[] sorts = new int[4];
    private int ring = 12;
    private final List<Integer> kinds = new ArrayList<>();
    private List<Integer> phases = new ArrayList<>();
    private final List<Integer> beats = new ArrayList<>();
    private final TreeSet<String> roads = new TreeSet<>();
    private int[] pushes = {1};
    private int ticks = 0;
    private List<long[]> ends = new ArrayList<>();
    private List<Integer> leaders = new ArrayList<>();
    private Long[][] spans = new Long[10][10];
    List<Integer> out = new ArrayList<>();

    private long bad(int s) {
        status = s;
        return NONE;
    }

    private long not(int s) {
        status = s;
        return 0;
    }

    private long is(long v) {
        status = 0;
        return v;
    }

    private boolean noSheet(int s) {
        return s < 0 || s > 3;
    }

    long sheet(int s, int sort, int many) {
        if (noSheet(s) || sort < 0 || sort > 3) return not(1);
        if (many > 100) return not(2);
        if (many < 0) return not(6);
        sheets[s] = new long[many];
        sorts[s] = sort;
        return is(1);
    }

    long write(int s, int place, long v) {
        if (noSheet(s)) return not(1);
        if (sheets[s] == null) return not(3);
        if (place < 0 || place >= sheets[s].length) return not(4);
        int bits = 8 << sorts[s];
        sheets[s][place] = v << 64 - bits >> 64 - bits;
        return is(1);
    }

    long read(int s, int place) {
        if (noSheet(s)) return bad(1);
        if (sheets[s] == null) return bad(3);
        if (place < 0 || place >= sheets[s].length) return bad(4);
        return is(sheets[s][place]);
    }

    long pour(int s, int i, int to, int j, int many) {
        if (noSheet(s) || noSheet(to)) return not(1);
        if (sheets[s] == null || sheets[to] == null) return not(3);
        if (sorts[s] != sorts[to]) return not(11);
        if (many < 0) return not(6);
        if (i < 0 || j < 0 || (long) i + many > sheets[s].length || (long) j + many > sheets[to].length) return not(4);
        long[] were = sheets[s].clone();
        for (int k = 0; k < many; k++) sheets[to][j + k] = were[i + k];
        return is(1);
    }

    private int many() {
        return kinds.size();
    }

    private boolean noBeater(int b) {
        return b < 0 || b >= many();
    }

    private boolean noPhase(long p) {
        return p < 0 || p >= ring;
    }

    private boolean sees(int a, int b) {
        return roads.contains(a + ">" + b);
    }

    long ring(int parts) {
        if (parts < 2 || parts > 4096) return not(2);
        ring = parts;
        kinds.clear();
        phases.clear();
        beats.clear();
        roads.clear();
        return is(1);
    }

    long beater(int kind, int phase) {
        if (kind < 0 || kind > 3 || noPhase(phase)) return bad(2);
        if (many() == 24) return bad(7);
        kinds.add(kind);
        phases.add(phase);
        beats.add(0);
        return is(many() - 1);
    }

    long kind(int b, int kind) {
        if (noBeater(b) || kind < 0 || kind > 3) return not(2);
        kinds.set(b, kind);
        return is(1);
    }

    long turn(int b, int phase) {
        if (noBeater(b) || noPhase(phase)) return not(2);
        phases.set(b, phase);
        return is(1);
    }

    long phases(int s) {
        if (noSheet(s)) return not(1);
        if (sheets[s] == null) return not(3);
        if (sheets[s].length < many()) return not(4);
        for (int k = 0; k < many(); k++) if (noPhase(sheets[s][k])) return not(2);
        for (int k = 0; k < many(); k++) phases.set(k, (int) sheets[s][k]);
        return is(1);
    }

    long road(int a, int b, boolean on) {
        if (noBeater(a) || noBeater(b)) return not(2);
        if (on) roads.add(a + ">" + b);
        else roads.remove(a + ">" + b);
        return is(1);
    }

    long roads(int what) {
        if (what < 0 || what > 3) return not(2);
        roads.clear();
        int n = many();
        for (int a = 0; a < n; a++) {
            if (what == 1) for (int b = 0; b < n; b++) if (a != b) roads.add(a + ">" + b);
            if (what >= 2) roads.add(a + ">" + (a + n - 1) % n);
            if (what == 3) roads.add(a + ">" + (a + 1) % n);
        }
        return is(1);
    }

    long push(int s, int many) {
        if (noSheet(s)) return not(1);
        if (sheets[s] == null) return not(3);
        if (many < 1 || many > 16) return not(2);
        if (many > sheets[s].length) return not(4);
        for (int k = 0; k < many; k++) if (sheets[s][k] < 0 || sheets[s][k] > 4096) return not(2);
        pushes = new int[many];
        for (int k = 0; k < many; k++) pushes[k] = (int) sheets[s][k];
        return is(1);
    }

    long clear() {
        ticks = 0;
        Collections.fill(beats, 0);
        return is(1);
    }

    /** The state behind a TICK; those that beat are added to the list. */
    private List<Integer> after(List<Integer> was, List<Integer> beaten) {
        int n = many();
        List<Integer> now = new ArrayList<>(was);
        for (int a = 0; a < n; a++) {
            int sum = 0;
            int seen = 0;
            for (int b = 0; b < n && kinds.get(a) == 1; b++) {
                if (a != b && sees(a, b)) {
                    int d = was.get(b) - was.get(a);
                    while (!(2 * d > -ring)) d += ring;
                    while (!(2 * d <= ring)) d -= ring;
                    sum += d;
                    seen++;
                }
            }
            int pull = Integer.signum(sum) * (Math.abs(sum) / (seen + 1));
            int to = was.get(a) + 1 + (kinds.get(a) == 1 ? pull : 0);
            now.set(a, kinds.get(a) == 2 ? to : Math.floorMod(to, ring));
        }
        ArrayDeque<Integer> line = new ArrayDeque<>();
        TreeSet<Integer> lined = new TreeSet<>();
        for (int a = 0; a < n; a++) {
            if (kinds.get(a) == 2 && now.get(a) == ring) {
                line.add(a);
                lined.add(a);
            }
        }
        while (!line.isEmpty()) {
            int first = line.poll();
            now.set(first, 0);
            beaten.add(first);
            for (int a = 0; a < n; a++) {
                if (a != first && kinds.get(a) == 2 && sees(a, first) && !lined.contains(a)) {
                    now.set(a, now.get(a) + pushes[now.get(a) * pushes.length / ring]);
                    if (now.get(a) >= ring) {
                        line.add(a);
                        lined.add(a);
                    }
                }
            }
        }
        return now;
    }

    private List<Integer> after(List<Integer> was) {
        return after(was, new ArrayList<>());
    }

    long go(int many) {
        if (many < 0 || many > 20000) return not(2);
        for (int t = 0; t < many; t++) {
            List<Integer> beaten = new ArrayList<>();
            phases = after(phases, beaten);
            for (int b : beaten) beats.set(b, beats.get(b) + 1);
        }
        ticks += many;
        return is(1);
    }

    long count(int what) {
        if (what < 0 || what > 3) return bad(2);
        return is(what == 0 ? ticks : what == 1 ? ring : what == 2 ? many() : roads.size());
    }

    long beats(int b, int what) {
        if (noBeater(b) || what < 0 || what > 3) return bad(2);
        if (what == 3) {
            int sum = 0;
            for (int o = 0; o < many(); o++) sum += sees(b, o) ? 1 : 0;
            return is(sum);
        }
        return is(what == 0 ? phases.get(b) : what == 1 ? beats.get(b) : kinds.get(b));
    }

    private boolean noSet(int set) {
        return (set & 0xFFFFFFFFL) >= 1L << many();
    }

    private boolean inStep(List<Integer> state, int set) {
        TreeSet<Integer> seen = new TreeSet<>();
        for (int b = 0; b < many(); b++) if ((set & 1 << b) != 0) seen.add(state.get(b));
        return seen.size() < 2;
    }

    long step(int set) {
        return noSet(set) ? bad(2) : is(inStep(phases, set) ? 1 : 0);
    }

    long arc(int set) {
        if (noSet(set) || set == 0) return bad(2);
        for (int parts = 1; ; parts++) {
            for (int from = 0; from < ring; from++) {
                boolean all = true;
                for (int b = 0; b < many(); b++) {
                    if ((set & 1 << b) != 0) all &= Math.floorMod(phases.get(b) - from, ring) < parts;
                }
                if (all) return is(parts - 1);
            }
        }
    }

    long round(int what) {
        if (what < 0 || what > 1) return bad(2);
        if (many() == 0) return bad(8);
        Map<List<Integer>, Integer> seen = new HashMap<>();
        List<Integer> state = phases;
        for (int t = 0; t <= 20000; t++) {
            Integer before = seen.putIfAbsent(state, t);
            if (before != null) return is(what == 0 ? before : t - before);
            state = after(state);
        }
        return bad(10);
    }

    long meet(int set) {
        if (noSet(set)) return bad(2);
        List<Integer> state = phases;
        for (int t = 0; t <= 20000; t++) {
            if (inStep(state, set)) return is(t);
            state = after(state);
        }
        round(0);
        return bad(status == 0 ? 8 : 10);
    }

    private int small() {
        double states = Math.pow(ring, many());
        return many() == 0 || states > 20736 ? 0 : (int) states;
    }

    private List<Integer> stateOf(int number) {
        List<Integer> state = new ArrayList<>();
        for (int k = 0; k < many(); k++) {
            state.add(number % ring);
            number /= ring;
        }
        return state;
    }

    private int numberOf(List<Integer> state) {
        int number = 0;
        int by = 1;
        for (int phase : state) {
            number += phase * by;
            by *= ring;
        }
        return number;
    }

    /** For each state (by number) the round that it comes to, as a set of states. */
    private List<TreeSet<Integer>> allEnds() {
        int states = small();
        int[] next = new int[states];
        for (int s = 0; s < states; s++) next[s] = numberOf(after(stateOf(s)));
        List<TreeSet<Integer>> ends = new ArrayList<>();
        for (int s = 0; s < states; s++) {
            int at = s;
            for (int t = 0; t < states; t++) at = next[at];
            TreeSet<Integer> round = new TreeSet<>();
            while (round.add(at)) at = next[at];
            ends.add(round);
        }
        return ends;
    }

    long ends() {
        if (small() == 0) return bad(5);
        TreeMap<Integer, long[]> byLeast = new TreeMap<>();
        for (TreeSet<Integer> round : allEnds()) {
            byLeast.computeIfAbsent(round.first(), k -> new long[] {k, round.size(), 0})[2]++;
        }
        ends = new ArrayList<>(byLeast.values());
        return is(ends.size());
    }

    long end(int k, int what) {
        if (what < 0 || what > 2) return bad(2);
        if (k < 0 || k >= ends.size()) return bad(8);
        return is(ends.get(k)[what]);
    }

    long sure(int set) {
        if (noSet(set)) return bad(2);
        if (small() == 0) return bad(5);
        long sum = 0;
        for (TreeSet<Integer> round : allEnds()) {
            boolean all = true;
            for (int s : round) all &= inStep(stateOf(s), set);
            sum += all ? 1 : 0;
        }
        return is(sum);
    }

    private TreeSet<Integer> ledTo(int from) {
        TreeSet<Integer> led = new TreeSet<>();
        ArrayDeque<Integer> open = new ArrayDeque<>(List.of(from));
        while (!open.isEmpty()) {
            int a = open.poll();
            for (int b = 0; b < many(); b++) if (sees(a, b) && led.add(b)) open.add(b);
        }
        return led;
    }

    /** Every set is tried; the first of the least ones whose numbers, read in their order, are least. */
    long lead() {
        if (many() == 0) return bad(8);
        List<TreeSet<Integer>> led = new ArrayList<>();
        for (int a = 0; a < many(); a++) led.add(ledTo(a));
        List<Integer> best = null;
        for (int set = 0; set < 1 << many(); set++) {
            List<Integer> in = new ArrayList<>();
            for (int a = 0; a < many(); a++) if ((set & 1 << a) != 0) in.add(a);
            boolean all = true;
            for (int a = 0; a < many(); a++) all &= in.contains(a) || !Collections.disjoint(led.get(a), in);
            if (all && (best == null || compare(in, best) < 0)) best = in;
        }
        leaders = best;
        return is(best.size());
    }

    private static int compare(List<Integer> a, List<Integer> b) {
        if (a.size() != b.size()) return a.size() - b.size();
        for (int k = 0; k < a.size(); k++) if (!a.get(k).equals(b.get(k))) return a.get(k) - b.get(k);
        return 0;
    }

    long leader(int k) {
        return k < 0 || k >= leaders.size() ? bad(8) : is(leaders.get(k));
    }

    long table(int size) {
        if (size < 0 || size > 10) return not(2);
        spans = new Long[size][size];
        return is(1);
    }

    private boolean noPlace(int i, int j) {
        return i < 0 || j < 0 || i >= spans.length || j >= spans.length;
    }

    long span(int i, int j, int v) {
        if (noPlace(i, j) || v < -1048576 || v > 1048576) return not(2);
        spans[i][j] = (long) v;
        return is(1);
    }

    long cut(int i, int j) {
        if (noPlace(i, j)) return not(2);
        if (spans[i][j] == null) return not(8);
        spans[i][j] = null;
        return is(1);
    }

    /** A round without a place twice, from its least place on. */
    private record Round(List<Integer> places, long sum) {
    }

    private List<Round> rounds() {
        List<Round> all = new ArrayList<>();
        for (int p = 0; p < spans.length; p++) rounds(new ArrayList<>(List.of(p)), 0, all);
        return all;
    }

    private void rounds(List<Integer> way, long sum, List<Round> all) {
        int first = way.get(0);
        int last = way.get(way.size() - 1);
        for (int to = first; to < spans.length; to++) {
            Long v = spans[to][last];
            if (v == null) continue;
            if (to == first) {
                all.add(new Round(new ArrayList<>(way), sum + v));
            } else if (!way.contains(to)) {
                way.add(to);
                rounds(way, sum + v, all);
                way.remove(way.size() - 1);
            }
        }
    }

    private static long mean(Round a, Round b) {
        return Long.signum(a.sum * b.places.size() - b.sum * a.places.size());
    }

    private Round criticalRound() {
        Round best = null;
        for (Round r : rounds()) {
            boolean better = best == null || mean(r, best) > 0
                || mean(r, best) == 0 && compare(r.places, best.places) < 0;
            if (better) best = r;
        }
        return best;
    }

    private static long divisor(long a, long b) {
        return b == 0 ? Math.abs(a) : divisor(b, a % b);
    }

    long pace(int what) {
        if (what < 0 || what > 1) return bad(2);
        Round r = criticalRound();
        if (r == null) return bad(8);
        long d = divisor(r.sum, r.places.size());
        return is(what == 0 ? r.sum / d : r.places.size() / d);
    }

    long critical() {
        Round r = criticalRound();
        if (r == null) return bad(8);
        out = r.places;
        return is(out.size());
    }

    private Long[][] one() {
        Long[][] m = new Long[spans.length][spans.length];
        for (int i = 0; i < m.length; i++) m[i][i] = 0L;
        return m;
    }

    private Long[][] oneRoadMore(Long[][] m) {
        Long[][] more = new Long[m.length][m.length];
        for (int i = 0; i < m.length; i++)
            for (int j = 0; j < m.length; j++)
                for (int k = 0; k < m.length; k++)
                    if (spans[i][k] != null && m[k][j] != null) {
                        long sum = spans[i][k] + m[k][j];
                        if (more[i][j] == null || more[i][j] < sum) more[i][j] = sum;
                    }
        return more;
    }

    /** Road by road: for small n alone. */
    long sums(long n, int i, int j) {
        if (n < 0 || n > 1_000_000_000_000L || noPlace(i, j)) return bad(2);
        Long[][] m = one();
        for (long k = 0; k < n; k++) m = oneRoadMore(m);
        return m[i][j] == null ? bad(8) : is(m[i][j]);
    }

    long longest(int i, int j) {
        if (noPlace(i, j)) return bad(2);
        Long best = null;
        Long[][] m = one();
        for (int n = 0; n <= 12; n++) {
            if (m[i][j] != null && (best == null || best < m[i][j])) best = m[i][j];
            m = oneRoadMore(m);
        }
        if (best == null) return bad(8);
        for (Round r : rounds()) if (r.sum > 0) return bad(9);
        return is(best);
    }

    long again(int what) {
        if (what < 0 || what > 1) return bad(2);
        if (criticalRound() == null) return bad(8);
        long upper = pace(0);
        long lower = pace(1);
        List<Long[][]> all = new ArrayList<>();
        Long[][] m = one();
        for (int n = 0; n <= 260; n++) {
            all.add(m);
            m = oneRoadMore(m);
        }
        for (int lead = 0; lead < 200; lead++) {
            for (int c = 1; lead + c <= 200; c++) {
                if (comesAgain(all, lead, c, upper, lower)) return is(what == 0 ? lead : c);
            }
        }
        return bad(10);
    }

    private static boolean comesAgain(List<Long[][]> all, int lead, int c, long upper, long lower) {
        if (c * upper % lower != 0) return false;
        long more = c * upper / lower;
        for (int n = lead; n + c < all.size(); n++) {
            Long[][] was = all.get(n);
            Long[][] is = all.get(n + c);
            for (int i = 0; i < was.length; i++)
                for (int j = 0; j < was.length; j++) {
                    if ((was[i][j] == null) != (is[i][j] == null)) return false;
                    if (was[i][j] != null && was[i][j] + more != is[i][j]) return false;
                }
        }
        return true;
    }

    String tell() {
        return "ring " + ring + " kinds " + kinds + " phases " + phases + " roads " + roads + " pushes "
            + Arrays.toString(pushes) + " spans " + Arrays.deepToString(spans);
    }
}
