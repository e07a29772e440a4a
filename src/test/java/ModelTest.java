import java.util.NoSuchElementException;
import java.util.Random;

/** Runs of chance calls (of fixed seeds), each answer and STATUS held against Model. */
public final class ModelTest {
    private static final int RUNS = 600;
    private static final int CROWDS = 30;
    // With status() behind each an object has at most 512 calls.
    private static final int CALLS = 230;
    private static final Check C = new Check("ModelTest");

    private final Random chance;
    private final int theme;
    private final BeatBench x = new BeatBench();
    private final Model m = new Model();
    private int ring = 12;
    private int beaters = 0;
    private int size = 10;
    private int heavy = 0;

    private ModelTest(long seed) {
        chance = new Random(seed);
        theme = (int) (seed % 4);
    }

    public static void main(String[] args) {
        for (int seed = 0; seed < RUNS; seed++) {
            ModelTest run = new ModelTest(seed);
            run.start();
            for (int n = 0; n < CALLS; n++) run.call(seed);
        }
        for (int seed = 0; seed < CROWDS; seed++) new ModelTest(seed).crowd(seed);
        C.end();
    }

    /** A bench with all BEATERS and many ROADS, TICK by TICK. */
    private void crowd(long seed) {
        setRing(seed % 3 == 0 ? in(3000, 4096) : in(2, 60));
        int[] pushes = {in(0, 3), in(0, 9), in(0, ring / 8 + 1), in(0, ring / 4 + 1)};
        same(seed, "sheet(0, 2, 4)", x.sheet(0, 2, 4), m.sheet(0, 2, 4));
        for (int k = 0; k < 4; k++) same(seed, "write", x.write(0, k, pushes[k]), m.write(0, k, pushes[k]));
        same(seed, "push(0, 4)", x.push(0, 4), m.push(0, 4));
        for (int k = 0; k < 24; k++) beater(seed % 2 == 0 ? in(0, 3) : in(1, 2), in(0, ring - 1));
        for (int k = 0; k < 60; k++) {
            int a = in(0, 23);
            int b = in(0, 23);
            same(seed, "road(" + a + ", " + b + ", true)", x.road(a, b, true), m.road(a, b, true));
        }
        for (int turn = 0; turn < 3; turn++) {
            int ticks = turn == 0 ? 1 : in(1, ring);
            same(seed, "go(" + ticks + ")", x.go(ticks), m.go(ticks));
            for (int k = 0; k < 24; k++) {
                same(seed, "beats(" + k + ", 0)", x.beats(k, 0), m.beats(k, 0));
                same(seed, "beats(" + k + ", 1)", x.beats(k, 1), m.beats(k, 1));
            }
        }
    }

    private void start() {
        if (theme == 3) return;
        setRing(theme == 0 ? in(2, 7) : theme == 1 ? in(2, 30) : chance.nextInt(4) == 0 ? in(2, 4096) : in(2, 12));
        int many = theme == 0 ? in(1, 5) : in(1, 7);
        for (int k = 0; k < many; k++) beater(in(0, 3), in(0, ring - 1));
    }

    private int in(int least, int greatest) {
        return least + chance.nextInt(greatest - least + 1);
    }

    /** Mostly a number that can be; now and then one beside it. */
    private int near(int least, int greatest) {
        int d = chance.nextInt(40);
        if (d == 0) return least - 1;
        if (d == 1) return greatest + 1;
        if (d == 2) return chance.nextBoolean() ? Integer.MIN_VALUE : Integer.MAX_VALUE;
        return greatest < least ? least : in(least, greatest);
    }

    private int set() {
        int d = chance.nextInt(30);
        return d == 0 ? chance.nextInt() : d == 1 ? 1 << beaters : chance.nextInt(1 << beaters);
    }

    private void same(long seed, String call, boolean got, long want) {
        same(seed, call, got ? 1L : 0L, want);
    }

    private void same(long seed, String call, long got, long want) {
        int status = x.status();
        String where = "seed " + seed + ": " + call + (got == want && status == m.status ? "" : " " + m.tell());
        C.due(where, got, want);
        C.due("status() behind " + where, status, m.status);
    }

    private void setRing(int parts) {
        same(-1, "ring(" + parts + ")", x.ring(parts), m.ring(parts));
        if (m.status == 0) {
            ring = parts;
            beaters = 0;
        }
    }

    private void beater(int kind, int phase) {
        same(-1, "beater(" + kind + ", " + phase + ")", x.beater(kind, phase), m.beater(kind, phase));
        beaters = (int) m.count(2);
        x.count(2);
    }

    private void call(long seed) {
        int d = chance.nextInt(10);
        if (theme == 3 ? d < 8 : d == 0) sumCall(seed);
        else if (d < 3) sheetCall(seed);
        else if (d < 6) benchCall(seed);
        else askCall(seed);
    }

    private void sheetCall(long seed) {
        int s = near(0, 3);
        int p = near(0, 9);
        switch (chance.nextInt(8)) {
            case 0: {
                int sort = near(0, 3);
                int many = chance.nextInt(6) == 0 ? near(0, 100) : near(1, 12);
                same(seed, "sheet(" + s + ", " + sort + ", " + many + ")", x.sheet(s, sort, many), m.sheet(s, sort, many));
                break;
            }
            case 1: case 2: {
                long v = chance.nextInt(5) == 0 ? chance.nextLong() : near(0, chance.nextBoolean() ? ring - 1 : 4096);
                same(seed, "write(" + s + ", " + p + ", " + v + ")", x.write(s, p, v), m.write(s, p, v));
                break;
            }
            case 3:
                same(seed, "read(" + s + ", " + p + ")", x.read(s, p), m.read(s, p));
                break;
            case 4: case 5: {
                int to = near(0, 3);
                int j = near(0, 9);
                int many = near(0, 5);
                same(seed, "pour(" + s + ", " + p + ", " + to + ", " + j + ", " + many + ")",
                    x.pour(s, p, to, j, many), m.pour(s, p, to, j, many));
                break;
            }
            case 6:
                same(seed, "phases(" + s + ")", x.phases(s), m.phases(s));
                break;
            default: {
                int many = near(1, 8);
                same(seed, "push(" + s + ", " + many + ")", x.push(s, many), m.push(s, many));
                break;
            }
        }
    }

    private void benchCall(long seed) {
        int a = near(0, beaters - 1);
        int b = near(0, beaters - 1);
        switch (chance.nextInt(12)) {
            case 0:
                if (chance.nextInt(8) == 0) {
                    setRing(near(2, 12));
                } else if (beaters < 6 || chance.nextInt(8) == 0 && beaters < 9) {
                    beater(near(0, 3), near(0, ring - 1));
                }
                break;
            case 1: {
                int kind = near(0, 3);
                same(seed, "kind(" + a + ", " + kind + ")", x.kind(a, kind), m.kind(a, kind));
                break;
            }
            case 2: {
                int phase = near(0, ring - 1);
                same(seed, "turn(" + a + ", " + phase + ")", x.turn(a, phase), m.turn(a, phase));
                break;
            }
            case 3: {
                int what = near(0, 3);
                same(seed, "roads(" + what + ")", x.roads(what), m.roads(what));
                break;
            }
            case 4: case 5: case 6: case 7: {
                boolean on = chance.nextInt(3) > 0;
                same(seed, "road(" + a + ", " + b + ", " + on + ")", x.road(a, b, on), m.road(a, b, on));
                break;
            }
            case 8:
                if (chance.nextInt(5) == 0) same(seed, "clear()", x.clear(), m.clear());
                break;
            default: {
                int ticks = near(0, chance.nextInt(10) == 0 ? 100 : 5);
                same(seed, "go(" + ticks + ")", x.go(ticks), m.go(ticks));
                break;
            }
        }
    }

    private void askCall(long seed) {
        int what = near(0, 3);
        int set = set();
        switch (chance.nextInt(13)) {
            case 0:
                same(seed, "count(" + what + ")", x.count(what), m.count(what));
                break;
            case 1: case 2: case 3: {
                int b = near(0, beaters - 1);
                same(seed, "beats(" + b + ", " + what + ")", x.beats(b, what), m.beats(b, what));
                break;
            }
            case 4:
                same(seed, "step(" + set + ")", x.step(set), m.step(set));
                break;
            case 5:
                same(seed, "arc(" + set + ")", x.arc(set), m.arc(set));
                break;
            case 6: {
                int w = near(0, 1);
                same(seed, "round(" + w + ")", x.round(w), m.round(w));
                break;
            }
            case 7:
                if (heavy++ < 8) same(seed, "meet(" + set + ")", x.meet(set), m.meet(set));
                break;
            case 8:
                if (isLight()) same(seed, "ends()", x.ends(), m.ends());
                break;
            case 9: case 10: {
                int k = near(0, 5);
                int w = near(0, 2);
                same(seed, "end(" + k + ", " + w + ")", x.end(k, w), m.end(k, w));
                break;
            }
            case 11:
                if (isLight()) same(seed, "sure(" + set + ")", x.sure(set), m.sure(set));
                break;
            default:
                if (chance.nextBoolean()) {
                    same(seed, "lead()", x.lead(), m.lead());
                } else {
                    int k = near(0, 3);
                    same(seed, "leader(" + k + ")", x.leader(k), m.leader(k));
                }
                break;
        }
    }

    /** Whether Model can tell the ends soon. */
    private boolean isLight() {
        double states = Math.pow(ring, beaters);
        return states < 1500 || states > 20736;
    }

    private void sumCall(long seed) {
        int i = near(0, size - 1);
        int j = near(0, size - 1);
        switch (chance.nextInt(14)) {
            case 0:
                if (chance.nextInt(4) == 0) {
                    int s = near(0, 6);
                    same(seed, "table(" + s + ")", x.table(s), m.table(s));
                    size = m.status == 0 ? s : size;
                }
                break;
            case 1: case 2: case 3: case 4: {
                int v = chance.nextInt(8) == 0 ? near(-1048576, 1048576) : in(-4, chance.nextInt(6) == 0 ? 4 : 0);
                same(seed, "span(" + i + ", " + j + ", " + v + ")", x.span(i, j, v), m.span(i, j, v));
                break;
            }
            case 5:
                same(seed, "cut(" + i + ", " + j + ")", x.cut(i, j), m.cut(i, j));
                break;
            case 6: {
                int w = near(0, 1);
                same(seed, "pace(" + w + ")", x.pace(w), m.pace(w));
                break;
            }
            case 7: case 8:
                same(seed, "critical()", x.critical(), m.critical());
                break;
            case 9: case 10: {
                int n = near(0, 40);
                if (n < 1000) same(seed, "sums(" + n + ", " + i + ", " + j + ")", x.sums(n, i, j), m.sums(n, i, j));
                break;
            }
            case 11:
                same(seed, "longest(" + i + ", " + j + ")", x.longest(i, j), m.longest(i, j));
                break;
            case 12: {
                int w = near(0, 1);
                if (heavy++ < 20) same(seed, "again(" + w + ")", x.again(w), m.again(w));
                break;
            }
            default:
                out(seed, near(0, 3));
                break;
        }
    }

    private void out(long seed, int k) {
        long want = k < 0 || k >= m.out.size() ? -2 : m.out.get(k);
        long got;
        try {
            got = x.out(k);
        } catch (NoSuchElementException none) {
            got = -2;
        }
        same(seed, "out(" + k + ")", got, want);
    }
}
