import java.util.Random;

/** Promises 28 to 36: the table, its pace, a critical round, sums, longest ways, when sums come again, and OUT. */
public final class SumTest {
    private static final Check C = new Check("SumTest");
    private static final long FARTHEST = 1_000_000_000_000L;

    public static void main(String[] args) {
        tables();
        paces();
        wholePaces();
        criticals();
        widest();
        sums();
        farSums();
        sumsByHalves();
        longest();
        agains();
        againEdges();
        C.end();
    }

    /** A table of a size with spans given as i, j, v, i, j, v, .. */
    private static BeatBench table(int size, int... spans) {
        BeatBench x = new BeatBench();
        C.yes(x, "table(" + size + ")", x.table(size));
        for (int k = 0; k + 2 < spans.length; k += 3) {
            C.yes(x, "span", x.span(spans[k], spans[k + 1], spans[k + 2]));
        }
        return x;
    }

    private static void pace(BeatBench x, long upper, long lower) {
        C.due(x, "pace(0)", x.pace(0), upper, 0);
        C.due(x, "pace(1)", x.pace(1), lower, 0);
    }

    private static void critical(BeatBench x, int... places) {
        C.due(x, "critical()", x.critical(), places.length, 0);
        C.out(x, places);
        C.outIsNone(x, -1);
        C.outIsNone(x, Integer.MAX_VALUE);
    }

    private static void again(BeatBench x, int lead, int round) {
        C.due(x, "again(0)", x.again(0), lead, 0);
        C.due(x, "again(1)", x.again(1), round, 0);
    }

    private static void tables() {
        BeatBench x = new BeatBench();
        C.yes(x, "span(9, 9, 1048576) of a new object", x.span(9, 9, 1048576));
        C.yes(x, "span(0, 9, -1048576)", x.span(0, 9, -1048576));
        C.due(x, "sums(1, 9, 9)", x.sums(1, 9, 9), 1048576, 0);
        C.due(x, "sums(1, 0, 9)", x.sums(1, 0, 9), -1048576, 0);
        C.none(x, "sums(1, 9, 0): from 0 to 9", x.sums(1, 9, 0), 8);
        C.no(x, "span(0, 0, 1048577)", x.span(0, 0, 1048577), 2);
        C.no(x, "span(0, 0, -1048577)", x.span(0, 0, -1048577), 2);
        C.yes(x, "span(9, 9, -1) instead", x.span(9, 9, -1));
        C.due(x, "sums(1, 9, 9): -1 is no NONE here", x.sums(1, 9, 9), -1, 0);
        C.yes(x, "cut(9, 9)", x.cut(9, 9));
        C.no(x, "cut(9, 9) again", x.cut(9, 9), 8);
        C.none(x, "sums(1, 9, 9)", x.sums(1, 9, 9), 8);
        C.yes(x, "table(10)", x.table(10));
        C.none(x, "sums(1, 0, 9): no SPANS", x.sums(1, 0, 9), 8);
        C.yes(x, "span(2, 2, 5)", x.span(2, 2, 5));
        C.yes(x, "table(2)", x.table(2));
        C.no(x, "span(2, 0, 1)", x.span(2, 0, 1), 2);
        C.yes(x, "span(1, 1, 1)", x.span(1, 1, 1));
        C.yes(x, "table(3)", x.table(3));
        C.none(x, "pace(0): no SPANS", x.pace(0), 8);
        C.yes(x, "table(0)", x.table(0));
        C.no(x, "span(0, 0, 1)", x.span(0, 0, 1), 2);
        C.no(x, "cut(0, 0)", x.cut(0, 0), 2);
        C.none(x, "sums(0, 0, 0)", x.sums(0, 0, 0), 2);
        C.none(x, "longest(0, 0)", x.longest(0, 0), 2);
        C.none(x, "pace(1)", x.pace(1), 8);
        C.none(x, "critical()", x.critical(), 8);
        C.none(x, "again(0)", x.again(0), 8);
        C.no(x, "table(11)", x.table(11), 2);
        C.no(x, "table(-1)", x.table(-1), 2);
    }

    private static void paces() {
        pace(table(1, 0, 0, 7), 7, 1);
        pace(table(1, 0, 0, -1), -1, 1);
        pace(table(2, 1, 0, 3, 0, 1, -2), 1, 2);
        pace(table(2, 1, 0, -3, 0, 1, 0), -3, 2);
        pace(table(2, 1, 0, 3, 0, 1, -3), 0, 1);
        pace(table(2, 1, 0, 4, 0, 1, -10), -3, 1);
        pace(table(3, 1, 0, 1, 2, 1, 1, 0, 2, 2), 4, 3);
        pace(table(3, 1, 0, 1, 2, 1, 1, 0, 2, 2, 2, 2, 1), 4, 3);
        pace(table(3, 1, 0, 1, 2, 1, 1, 0, 2, 2, 2, 2, 2), 2, 1);
        pace(table(4, 1, 0, 5, 0, 1, 6, 3, 2, -5, 2, 3, 17), 6, 1);
        BeatBench x = table(3, 1, 0, 9, 2, 1, 9, 2, 0, 9);
        C.none(x, "pace(0): a way, no round", x.pace(0), 8);
        C.none(x, "pace(1)", x.pace(1), 8);
        C.yes(x, "span(0, 2, -20)", x.span(0, 2, -20));
        pace(x, -2, 3);
        C.yes(x, "cut(1, 0)", x.cut(1, 0));
        pace(x, -11, 2);
    }

    /** A round of all ten places, with greatest and least SPANS. */
    private static void wholePaces() {
        for (int v : new int[] {1048576, -1048576}) {
            BeatBench x = table(10);
            for (int k = 0; k < 10; k++) x.span((k + 1) % 10, k, v);
            pace(x, v, 1);
            critical(x, 0, 1, 2, 3, 4, 5, 6, 7, 8, 9);
            again(x, 0, 10);
            x.span(0, 9, v > 0 ? v - 1 : v + 1);
            pace(x, v > 0 ? 10485759 : -10485759, 10);
            again(x, 0, 10);
            C.due(x, "sums(FARTHEST, 3, 3)", x.sums(FARTHEST, 3, 3),
                (v > 0 ? 10485759L : -10485759L) * (FARTHEST / 10), 0);
            C.none(x, "sums(FARTHEST, 3, 4)", x.sums(FARTHEST, 3, 4), 8);
        }
    }

    private static void criticals() {
        critical(table(1, 0, 0, -5), 0);
        critical(table(3, 2, 2, 1, 1, 1, 1, 0, 0, 0), 1);
        critical(table(3, 1, 0, 3, 0, 1, -1, 2, 2, 1), 2);
        critical(table(3, 1, 0, 3, 0, 1, -1, 2, 1, 1, 1, 2, 1), 0, 1);
        critical(table(3, 1, 2, 5, 2, 1, 5, 0, 0, 4), 1, 2);
        critical(table(3, 1, 0, 1, 2, 1, 2, 0, 2, 3, 2, 0, 3, 1, 2, 2, 0, 1, 1), 0, 2);
        critical(table(3, 1, 0, 1, 2, 1, 2, 0, 2, 3, 2, 0, 4, 1, 2, 1, 0, 1, 1), 0, 2);
        critical(table(4, 1, 0, 0, 2, 1, 0, 0, 2, 0, 3, 0, 0, 2, 3, 0), 0, 1, 2);
        critical(table(4, 3, 0, 0, 2, 3, 0, 0, 2, 0, 1, 0, -1, 2, 1, 1), 0, 1, 2);
        critical(table(4, 3, 0, 0, 2, 3, 0, 0, 2, 0, 1, 0, -1, 2, 1, 0), 0, 3, 2);
        // A round is told along its ROADS.
        critical(table(4, 3, 0, 5, 1, 3, 5, 0, 1, 5), 0, 3, 1);
        critical(table(4, 3, 0, 5, 1, 3, 5, 0, 1, 5, 1, 0, 5, 3, 1, 5, 0, 3, 5, 2, 2, 4), 0, 1);
        // A shorter one behind it goes ahead of a longer one with lesser places.
        critical(table(6, 1, 0, 2, 2, 1, 2, 0, 2, 2, 5, 4, 4, 4, 5, 0), 4, 5);
        BeatBench x = table(2, 0, 0, 1, 1, 0, 2, 0, 1, 1);
        critical(x, 0, 1);
        C.yes(x, "table(2): OUT stays", x.table(2));
        C.out(x, 0, 1);
        C.none(x, "critical()", x.critical(), 8);
        C.out(x, 0, 1);
        C.yes(x, "span(1, 1, 0)", x.span(1, 1, 0));
        C.out(x, 0, 1);
        critical(x, 1);
    }

    /** All SPANS alike but those of one round over all ten places, in a mixed order. */
    private static void widest() {
        int[] way = {0, 7, 3, 9, 1, 5, 2, 8, 6, 4};
        BeatBench x = new BeatBench();
        for (int i = 0; i < 10; i++) {
            for (int j = 0; j < 10; j++) x.span(i, j, 0);
        }
        critical(x, 0);
        pace(x, 0, 1);
        again(x, 1, 1);
        for (int k = 0; k < 10; k++) x.span(way[(k + 1) % 10], way[k], 1000);
        pace(x, 1000, 1);
        critical(x, way);
        x.span(4, 6, 999);
        pace(x, 9999, 10);
        critical(x, way);
        C.due(x, "sums(9, 4, 0): along the round", x.sums(9, 4, 0), 8999, 0);
        C.due(x, "sums(10, 0, 0)", x.sums(10, 0, 0), 9999, 0);
    }

    private static void sums() {
        BeatBench x = table(3, 1, 0, 5, 2, 1, -7, 0, 2, 1, 2, 0, -1);
        for (int i = 0; i < 3; i++) {
            for (int j = 0; j < 3; j++) {
                if (i == j) C.due(x, "sums(0, i, i)", x.sums(0, i, j), 0, 0);
                else C.none(x, "sums(0, i, j)", x.sums(0, i, j), 8);
            }
        }
        C.due(x, "sums(1, 1, 0)", x.sums(1, 1, 0), 5, 0);
        C.none(x, "sums(1, 0, 1)", x.sums(1, 0, 1), 8);
        C.due(x, "sums(1, 2, 0)", x.sums(1, 2, 0), -1, 0);
        C.due(x, "sums(2, 2, 0)", x.sums(2, 2, 0), -2, 0);
        C.due(x, "sums(2, 0, 0)", x.sums(2, 0, 0), 0, 0);
        C.due(x, "sums(3, 0, 0)", x.sums(3, 0, 0), -1, 0);
        C.due(x, "sums(3, 1, 0)", x.sums(3, 1, 0), 5, 0);
        C.due(x, "sums(4, 2, 0)", x.sums(4, 2, 0), -2, 0);
        C.due(x, "sums(5, 0, 0)", x.sums(5, 0, 0), -1, 0);
    }

    private static void farSums() {
        BeatBench x = table(1, 0, 0, 1048576);
        C.due(x, "sums(10^12, 0, 0)", x.sums(FARTHEST, 0, 0), 1_048_576_000_000_000_000L, 0);
        C.none(x, "sums(10^12 + 1, 0, 0)", x.sums(FARTHEST + 1, 0, 0), 2);
        C.yes(x, "span(0, 0, -1048576)", x.span(0, 0, -1048576));
        C.due(x, "sums(10^12, 0, 0)", x.sums(FARTHEST, 0, 0), -1_048_576_000_000_000_000L, 0);
        // A round of 2 with 3 together, and a way out of it.
        BeatBench y = table(3, 1, 0, 2, 0, 1, 1, 2, 1, -100);
        C.due(y, "sums(10^12, 0, 0)", y.sums(FARTHEST, 0, 0), FARTHEST / 2 * 3, 0);
        C.none(y, "sums(10^12, 1, 0)", y.sums(FARTHEST, 1, 0), 8);
        C.due(y, "sums(10^12 - 1, 1, 0)", y.sums(FARTHEST - 1, 1, 0), (FARTHEST - 2) / 2 * 3 + 2, 0);
        C.due(y, "sums(10^12, 2, 0)", y.sums(FARTHEST, 2, 0), (FARTHEST - 2) / 2 * 3 + 2 - 100, 0);
        C.none(y, "sums(10^12, 2, 2)", y.sums(FARTHEST, 2, 2), 8);
        // Rounds of 3 and 5 at one place: any number of ROADS from 8 on, with as many of the better as can be.
        BeatBench z = table(7, 1, 0, 0, 2, 1, 0, 0, 2, 3, 3, 0, 0, 4, 3, 0, 5, 4, 0, 6, 5, 0, 0, 6, 4);
        C.none(z, "sums(7, 0, 0)", z.sums(7, 0, 0), 8);
        C.due(z, "sums(8, 0, 0)", z.sums(8, 0, 0), 7, 0);
        C.due(z, "sums(10^12, 0, 0): 10^12 - 10 by threes, and two fives", z.sums(FARTHEST, 0, 0),
            FARTHEST - 10 + 8, 0);
    }

    /** A row of 2 n ROADS, or one more, is two rows of n, and one ROAD: held so from one ROAD to 10^12 and a few less. */
    private static void sumsByHalves() {
        Random chance = new Random(7);
        for (int run = 0; run < 40; run++) {
            int size = 1 + chance.nextInt(3);
            Integer[][] spans = new Integer[size][size];
            for (int i = 0; i < size; i++) {
                for (int j = 0; j < size; j++) {
                    if (chance.nextInt(3) > 0) spans[i][j] = chance.nextInt(2097153) - 1048576;
                }
            }
            long[][] one = allSums(spans, 1);
            long[][] half = one;
            long last = FARTHEST - chance.nextInt(1000);
            for (int bit = 62 - Long.numberOfLeadingZeros(last); bit >= 0; bit--) {
                long n = last >> bit;
                long[][] due = product(half, half);
                due = (n & 1) == 0 ? due : product(due, one);
                half = allSums(spans, n);
                for (int i = 0; i < size; i++) {
                    for (int j = 0; j < size; j++) {
                        C.due("run " + run + ": sums(" + n + ", " + i + ", " + j + ")", half[i][j], due[i][j]);
                    }
                }
            }
        }
    }

    private static long[][] allSums(Integer[][] spans, long n) {
        int size = spans.length;
        BeatBench x = new BeatBench();
        x.table(size);
        for (int i = 0; i < size; i++) for (int j = 0; j < size; j++) if (spans[i][j] != null) x.span(i, j, spans[i][j]);
        long[][] sums = new long[size][size];
        for (int i = 0; i < size; i++) {
            for (int j = 0; j < size; j++) {
                long sum = x.sums(n, i, j);
                sums[i][j] = x.status() == 8 ? Long.MIN_VALUE : sum;
            }
        }
        return sums;
    }

    private static long[][] product(long[][] a, long[][] b) {
        long[][] made = new long[a.length][a.length];
        for (int i = 0; i < a.length; i++) {
            for (int j = 0; j < a.length; j++) {
                made[i][j] = Long.MIN_VALUE;
                for (int k = 0; k < a.length; k++) {
                    boolean none = a[i][k] == Long.MIN_VALUE || b[k][j] == Long.MIN_VALUE;
                    if (!none) made[i][j] = Math.max(made[i][j], a[i][k] + b[k][j]);
                }
            }
        }
        return made;
    }

    private static void longest() {
        BeatBench x = table(4, 1, 0, 5, 2, 1, -7, 0, 2, 1, 2, 0, -3);
        C.due(x, "longest(0, 0)", x.longest(0, 0), 0, 0);
        C.due(x, "longest(3, 3)", x.longest(3, 3), 0, 0);
        C.due(x, "longest(1, 0)", x.longest(1, 0), 5, 0);
        C.due(x, "longest(2, 0): two ROADS", x.longest(2, 0), -2, 0);
        C.due(x, "longest(0, 1)", x.longest(0, 1), -6, 0);
        C.due(x, "longest(1, 1)", x.longest(1, 1), 0, 0);
        C.due(x, "longest(1, 2)", x.longest(1, 2), 6, 0);
        C.none(x, "longest(3, 0)", x.longest(3, 0), 8);
        C.none(x, "longest(0, 3)", x.longest(0, 3), 8);
        C.yes(x, "a round of 0", x.span(0, 2, 2));
        C.due(x, "longest(1, 0)", x.longest(1, 0), 5, 0);
        C.yes(x, "a round above 0", x.span(0, 2, 3));
        C.none(x, "longest(1, 0)", x.longest(1, 0), 9);
        C.none(x, "longest(0, 0)", x.longest(0, 0), 9);
        C.none(x, "longest(3, 3): no row over that round", x.longest(3, 3), 9);
        C.none(x, "longest(3, 0): 8 ahead of 9", x.longest(3, 0), 8);
        C.none(x, "longest(4, 0): 2 ahead of 8", x.longest(4, 0), 2);
        BeatBench way = table(10);
        for (int k = 0; k < 9; k++) way.span(k + 1, k, 1048576);
        C.due(way, "longest(9, 0): nine ROADS", way.longest(9, 0), 9 * 1048576, 0);
        C.none(way, "longest(0, 9)", way.longest(0, 9), 8);
        way.span(9, 0, -5);
        C.due(way, "longest(9, 0)", way.longest(9, 0), 9 * 1048576, 0);
        way.span(0, 9, -1048576);
        C.none(way, "longest(9, 0)", way.longest(9, 0), 9);
        BeatBench minus = table(2, 1, 0, -1);
        C.due(minus, "longest(1, 0): -1 is no NONE here", minus.longest(1, 0), -1, 0);
    }

    private static void agains() {
        again(table(1, 0, 0, 5), 0, 1);
        again(table(1, 0, 0, -5), 0, 1);
        again(table(2, 0, 1, 5, 1, 0, -2), 0, 2);
        again(table(2, 0, 0, 0, 1, 0, 5), 1, 1);
        again(table(3, 0, 0, 0, 1, 0, 5, 2, 1, 5), 2, 1);
        again(table(5, 1, 0, 1, 0, 1, 1, 3, 2, 1, 4, 3, 1, 2, 4, 1), 0, 6);
        again(table(10, 1, 0, 0, 0, 1, 0, 3, 2, 0, 4, 3, 0, 2, 4, 0, 6, 5, 0, 7, 6, 0, 8, 7, 0, 9, 8, 0, 5, 9, 0), 0, 30);
        BeatBench x = table(2, 0, 0, 1, 1, 1, 0);
        C.none(x, "again(0): one pace behind the other", x.again(0), 10);
        C.none(x, "again(1)", x.again(1), 10);
        C.yes(x, "span(0, 1, 0): 1 leads to 0, but sums from 1 to 1 stay behind", x.span(0, 1, 0));
        C.none(x, "again(0)", x.again(0), 10);
        C.yes(x, "span(1, 0, 0)", x.span(1, 0, 0));
        again(x, 2, 1);
    }

    /** A ROUND of -1 at 0, one of 0 at 1, and a way there and back: the sums at 0 are -n, till the way is as good. */
    private static void againEdges() {
        again(table(2, 0, 0, -1, 1, 1, 0, 1, 0, -20, 0, 1, -30), 50, 1);
        again(table(2, 0, 0, -1, 1, 1, 0, 1, 0, -99, 0, 1, -100), 199, 1);
        BeatBench x = table(2, 0, 0, -1, 1, 1, 0, 1, 0, -100, 0, 1, -100);
        C.none(x, "again(0): LEAD 200 and C 1", x.again(0), 10);
        C.none(x, "again(1)", x.again(1), 10);
        // The critical round has two places: LEAD 198 and C 2, then one more.
        again(table(3, 0, 0, -1, 1, 2, 0, 2, 1, 0, 1, 0, -99, 0, 1, -99), 198, 2);
        BeatBench y = table(3, 0, 0, -1, 1, 2, 0, 2, 1, 0, 1, 0, -99, 0, 1, -100);
        C.none(y, "again(0): LEAD 199 and C 2", y.again(0), 10);
    }
}
