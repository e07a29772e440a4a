/** Terms, part 3, sentence by sentence: SPANS, rows and rounds, PACE, CRITICAL, SUMS, LONGEST and AGAIN. */
public final class TermsSumTest {
    private static final int GREATEST = 1_048_576;
    private static final long FARTHEST = 1_000_000_000_000L;
    private static final Check C = new Check("TermsSumTest");

    public static void main(String[] args) {
        spansOfATable();
        tableAtFirst();
        rows();
        rounds();
        paces();
        shortestRounds();
        leastPlaces();
        sums();
        longest();
        agains();
        lookedFor();
        C.end();
    }

    /** A table of a SIZE, with SPANS told as from, to, number. */
    private static BeatBench table(int size, int... roads) {
        BeatBench x = new BeatBench();
        C.yes(x, "table(" + size + ")", x.table(size));
        for (int k = 0; k + 2 < roads.length; k += 3) {
            C.yes(x, "span", x.span(roads[k + 1], roads[k], roads[k + 2]));
        }
        return x;
    }

    /** One round over the places told, with one SPAN's number for each ROAD. */
    private static BeatBench round(BeatBench x, int v, int... places) {
        for (int k = 0; k < places.length; k++) {
            C.yes(x, "span", x.span(places[(k + 1) % places.length], places[k], v));
        }
        return x;
    }

    private static void pace(BeatBench x, long upper, long lower) {
        C.due(x, "pace(0)", x.pace(0), upper, 0);
        C.due(x, "pace(1)", x.pace(1), lower, 0);
    }

    private static void critical(BeatBench x, int... places) {
        C.due(x, "critical()", x.critical(), places.length, 0);
        C.out(x, places);
    }

    private static void again(BeatBench x, int lead, int round) {
        C.due(x, "again(0)", x.again(0), lead, 0);
        C.due(x, "again(1)", x.again(1), round, 0);
    }

    private static void spent(BeatBench x) {
        C.none(x, "again(0)", x.again(0), 10);
        C.none(x, "again(1)", x.again(1), 10);
    }

    private static void spansOfATable() {
        C.about("SPANS: a table of up to 10 by 10 numbers, from -1,048,576 to 1,048,576, or none, (i, j): from j to i.");
        BeatBench x = table(10);
        for (int v : new int[] {GREATEST, -GREATEST, 0, -1}) {
            C.yes(x, "span(9, 0, " + v + ")", x.span(9, 0, v));
            C.due(x, "from 0 to 9", x.sums(1, 9, 0), v, 0);
            C.none(x, "from 9 to 0", x.sums(1, 0, 9), 8);
        }
        for (int v : new int[] {GREATEST + 1, -GREATEST - 1, Integer.MAX_VALUE, Integer.MIN_VALUE}) {
            C.no(x, "span(9, 0, " + v + ")", x.span(9, 0, v), 2);
            C.due(x, "from 0 to 9", x.sums(1, 9, 0), -1, 0);
        }
        for (int wrong : new int[] {-1, 10, Integer.MIN_VALUE, Integer.MAX_VALUE}) {
            C.no(x, "span(" + wrong + ", 0, 0)", x.span(wrong, 0, 0), 2);
            C.no(x, "span(0, " + wrong + ", 0)", x.span(0, wrong, 0), 2);
        }
        C.yes(x, "cut(9, 0)", x.cut(9, 0));
        C.none(x, "none", x.sums(1, 9, 0), 8);
        BeatBench three = table(3);
        C.yes(three, "span(2, 2, 1)", three.span(2, 2, 1));
        C.no(three, "span(3, 0, 1)", three.span(3, 0, 1), 2);
        C.no(three, "span(0, 3, 1)", three.span(0, 3, 1), 2);
    }

    private static void tableAtFirst() {
        C.about("(Set by 10 by 10 none at first; SIZE 0 to 10.)");
        BeatBench x = new BeatBench();
        for (int k = 0; k < 10; k++) C.no(x, "cut(" + k + ", " + (9 - k) + ")", x.cut(k, 9 - k), 8);
        C.due(x, "sums(0, 9, 9)", x.sums(0, 9, 9), 0, 0);
        C.none(x, "sums(0, 10, 10)", x.sums(0, 10, 10), 2);
        for (int size : new int[] {-1, 11, Integer.MIN_VALUE, Integer.MAX_VALUE}) {
            C.no(x, "table(" + size + ")", x.table(size), 2);
        }
        for (int size = 0; size <= 10; size++) {
            C.yes(x, "table(" + size + ")", x.table(size));
            C.none(x, "sums(0, SIZE, 0)", x.sums(0, size, 0), 2);
            C.none(x, "pace(0)", x.pace(0), 8);
            if (size > 0) C.due(x, "sums(0, SIZE - 1, SIZE - 1)", x.sums(0, size - 1, size - 1), 0, 0);
        }
    }

    private static void rows() {
        C.about("A row of n ROADS goes over n + 1 places, each next one with a SPAN from the place ahead to it; its sum is "
            + "that of the SPANS.");
        BeatBench x = table(3, 0, 1, 5, 1, 2, -7);
        C.due(x, "two ROADS", x.sums(2, 2, 0), -2, 0);
        C.none(x, "one ROAD", x.sums(1, 2, 0), 8);
        C.none(x, "three ROADS", x.sums(3, 2, 0), 8);
        C.none(x, "back", x.sums(2, 0, 2), 8);
        // A place may come again and again.
        BeatBench own = table(1, 0, 0, 3);
        for (int n = 0; n < 14; n++) C.due(own, n + " ROADS", own.sums(n, 0, 0), 3 * n, 0);
        BeatBench two = table(2, 0, 1, 4, 1, 0, -1);
        C.due(two, "five ROADS", two.sums(5, 1, 0), 10, 0);
        C.due(two, "six ROADS", two.sums(6, 0, 0), 9, 0);
    }

    private static void rounds() {
        C.about("A ROUND comes back.");
        BeatBench way = table(10);
        for (int j = 0; j < 10; j++) for (int i = j + 1; i < 10; i++) way.span(i, j, 1);
        C.none(way, "pace(0): nothing comes back", way.pace(0), 8);
        C.none(way, "critical()", way.critical(), 8);
        C.none(way, "again(0)", way.again(0), 8);
        C.yes(way, "span(9, 9, -5)", way.span(9, 9, -5));
        pace(way, -5, 1);
        C.yes(way, "span(0, 9, -5)", way.span(0, 9, -5));
        pace(way, 2, 5);
        pace(table(1, 0, 0, 0), 0, 1);
    }

    private static void paces() {
        C.about("PACE: the greatest of all rounds' sums by how many ROADS they have.");
        // The mean counts, not the sum; below 0 too.
        pace(table(3, 0, 1, 9, 1, 0, 0, 2, 2, 5), 5, 1);
        pace(table(3, 0, 1, 9, 1, 0, 2, 2, 2, 5), 11, 2);
        pace(table(3, 0, 1, -9, 1, 0, 0, 2, 2, -5), -9, 2);
        pace(table(3, 0, 1, -9, 1, 0, -2, 2, 2, -5), -5, 1);
        for (int many = 1; many <= 10; many++) {
            int[] places = new int[many];
            for (int k = 0; k < many; k++) places[k] = k;
            pace(round(table(10), GREATEST, places), GREATEST, 1);
            pace(round(table(10), -GREATEST, places), -GREATEST, 1);
            BeatBench x = round(table(10), 0, places);
            pace(x, 0, 1);
            x.span(0, many - 1, 1);
            pace(x, 1, many);
            x.span(0, many - 1, -1);
            pace(x, -1, many);
            x.span(0, many - 1, -6);
            int common = many % 6 == 0 ? 6 : many % 3 == 0 ? 3 : many % 2 == 0 ? 2 : 1;
            pace(x, -6 / common, many / common);
        }
    }

    private static void shortestRounds() {
        C.about("CRITICAL: a round without a place twice that has this mean, the first one: the shortest;");
        critical(round(round(table(10), 1, 0, 1, 2, 3, 4, 5, 6, 7, 8), 1, 9), 9);
        critical(round(round(table(10), 1, 0, 1, 2, 3, 4, 5, 6), 1, 7, 8), 7, 8);
        critical(round(table(10), 1, 0, 1, 2, 3, 4, 5, 6, 7, 8, 9), 0, 1, 2, 3, 4, 5, 6, 7, 8, 9);
        // A shorter one of a lesser mean is none.
        critical(round(round(table(10), 2, 0, 1, 2), 1, 9), 0, 1, 2);
        // 3 and 1 by 2 is 2 by 1.
        critical(table(3, 0, 1, 3, 1, 0, 1, 2, 2, 2), 2);
        critical(table(3, 0, 1, 3, 1, 0, 2, 2, 2, 2), 0, 1);
    }

    private static void leastPlaces() {
        C.about("of these that with the least place first, then next, and so on, told from its least place on along its "
            + "ROADS.");
        critical(round(round(table(10), 4, 5), 4, 3), 3);
        critical(round(round(table(10), 4, 1, 2), 4, 0, 9), 0, 9);
        critical(round(round(table(10), 4, 0, 9), 4, 0, 2), 0, 2);
        critical(round(round(table(10), 4, 7, 0, 8), 4, 0, 9, 1), 0, 8, 7);
        critical(round(round(table(10), 4, 2, 3, 0), 4, 1, 3, 0), 0, 1, 3);
        critical(round(round(table(10), 4, 0, 5, 9, 2), 4, 0, 5, 1, 7), 0, 5, 1, 7);
        critical(round(table(10), 4, 9, 8, 7), 7, 9, 8);
        critical(round(table(10), 4, 9, 7, 8), 7, 8, 9);
        critical(round(table(10), -4, 6, 2, 9, 4, 0, 8, 1, 7, 3, 5), 0, 8, 1, 7, 3, 5, 6, 2, 9, 4);
        // The next place is the least one of those on a critical round, not of all.
        critical(table(4, 0, 1, 9, 1, 0, -9, 0, 3, 2, 3, 0, 2), 0, 3);
    }

    private static void sums() {
        C.about("SUMS (n, i, j): the greatest sum of a row of n ROADS from j to i (n 0: 0 where i is j).");
        BeatBench x = table(3, 0, 0, -1, 0, 1, 2, 1, 2, 2, 0, 2, 1);
        for (int i = 0; i < 3; i++) {
            C.due(x, "sums(0, i, i)", x.sums(0, i, i), 0, 0);
            C.none(x, "sums(0, i, i + 1)", x.sums(0, i, (i + 1) % 3), 8);
        }
        C.due(x, "sums(1, 2, 0)", x.sums(1, 2, 0), 1, 0);
        C.due(x, "sums(2, 2, 0): 2 and 2, not -1 and 1", x.sums(2, 2, 0), 4, 0);
        C.due(x, "sums(3, 2, 0): -1, 2 and 2", x.sums(3, 2, 0), 3, 0);
        C.due(x, "sums(10^12, 0, 0)", x.sums(FARTHEST, 0, 0), -FARTHEST, 0);
        C.due(x, "sums(10^12, 2, 0)", x.sums(FARTHEST, 2, 0), 6 - FARTHEST, 0);
        C.none(x, "sums(10^12, 0, 2)", x.sums(FARTHEST, 0, 2), 8);
        C.none(x, "sums(10^12 + 1, 0, 0)", x.sums(FARTHEST + 1, 0, 0), 2);
        C.none(x, "sums(-1, 0, 0)", x.sums(-1, 0, 0), 2);
        for (int v : new int[] {GREATEST, -GREATEST}) {
            BeatBench far = round(table(10), v, 0, 1, 2, 3, 4, 5, 6, 7, 8, 9);
            C.due(far, "sums(10^12, 4, 4)", far.sums(FARTHEST, 4, 4), FARTHEST * v, 0);
            C.due(far, "sums(10^12 - 1, 3, 4)", far.sums(FARTHEST - 1, 3, 4), (FARTHEST - 1) * v, 0);
            C.none(far, "sums(10^12 - 1, 4, 4)", far.sums(FARTHEST - 1, 4, 4), 8);
        }
    }

    private static void longest() {
        C.about("LONGEST (i, j): the greatest of all SUMS, n 0 and more, if no round's sum is above 0.");
        BeatBench x = table(4, 0, 1, -5, 1, 0, 5, 1, 2, 3, 0, 2, -3);
        C.due(x, "longest(0, 0): n 0", x.longest(0, 0), 0, 0);
        C.due(x, "longest(3, 3): n 0", x.longest(3, 3), 0, 0);
        C.due(x, "longest(2, 0): two ROADS are more than one", x.longest(2, 0), -2, 0);
        C.due(x, "longest(0, 1)", x.longest(0, 1), 5, 0);
        C.none(x, "longest(0, 2)", x.longest(0, 2), 8);
        x.span(0, 1, 6);
        C.none(x, "a round of 1", x.longest(0, 0), 9);
        x.span(0, 1, 5);
        C.due(x, "a round of 0", x.longest(1, 1), 0, 0);
        x.span(3, 3, 1);
        C.none(x, "a round of 1 elsewhere", x.longest(1, 1), 9);
        x.span(3, 3, 0);
        C.due(x, "a round of 0 elsewhere", x.longest(1, 1), 0, 0);
        // Nine ROADS over all ten places, the last one by place 0.
        BeatBench far = table(10);
        for (int k = 1; k < 10; k++) far.span(k - 1, k, GREATEST);
        C.due(far, "longest(0, 9)", far.longest(0, 9), 9L * GREATEST, 0);
        far.span(0, 9, GREATEST);
        C.due(far, "longest(0, 9)", far.longest(0, 9), 9L * GREATEST, 0);
        BeatBench low = table(10);
        for (int k = 1; k < 10; k++) low.span(k, k - 1, -GREATEST);
        C.due(low, "longest(9, 0)", low.longest(9, 0), -9L * GREATEST, 0);
    }

    private static void agains() {
        C.about("AGAIN: the least LEAD, then the least C, with which, for all n from LEAD on, each SUM of n + C is that of n "
            + "and C times PACE (none where it is none);");
        again(table(1, 0, 0, 7), 0, 1);
        again(table(1, 0, 0, -7), 0, 1);
        // None where it is none: rounds of 2, and of 2, 3 and 5.
        again(round(table(2), 3, 0, 1), 0, 2);
        again(round(round(round(table(10), 3, 0, 1), 3, 2, 3, 4), 3, 5, 6, 7, 8, 9), 0, 30);
        again(round(table(10), 3, 0, 1, 2, 3, 4, 5, 6, 7, 8, 9), 0, 10);
        // A sum that is none with 0 ROADS, and with 0 to 3.
        again(table(2, 0, 0, 0, 0, 1, 9), 1, 1);
        again(table(5, 0, 0, 0, 0, 1, 9, 1, 2, 9, 2, 3, 9, 3, 4, 9), 4, 1);
        // One that is there with 1 ROAD alone.
        again(table(3, 0, 0, 0, 1, 2, 9), 2, 1);
        // C times PACE is a whole number only for some C.
        again(table(2, 0, 1, 1, 1, 0, 0), 0, 2);
        again(table(3, 0, 1, 1, 1, 2, 0, 2, 0, 0), 0, 3);
        // -n at place 0 till the way over place 1, -4, is as good.
        again(table(2, 0, 0, -1, 1, 1, 0, 0, 1, -2, 1, 0, -2), 4, 1);
        again(table(2, 0, 0, 4, 1, 1, 5, 0, 1, 3, 1, 0, 3), 4, 1);
    }

    private static void lookedFor() {
        C.about("looked for to LEAD and C together 200; SPENT else.");
        again(table(2, 0, 0, -1, 1, 1, 0, 0, 1, -99, 1, 0, -100), 199, 1);
        spent(table(2, 0, 0, -1, 1, 1, 0, 0, 1, -100, 1, 0, -100));
        // With a critical round of two places C is 2.
        again(table(3, 0, 0, -1, 1, 2, 0, 2, 1, 0, 0, 1, -99, 1, 0, -99), 198, 2);
        spent(table(3, 0, 0, -1, 1, 2, 0, 2, 1, 0, 0, 1, -99, 1, 0, -100));
        // Never: two rounds of unlike means that do not lead to one another.
        spent(table(2, 0, 0, 1, 1, 1, 0));
        spent(table(2, 0, 0, GREATEST, 1, 1, -GREATEST));
        spent(table(2, 0, 0, 1, 1, 1, 0, 0, 1, 0));
    }
}
