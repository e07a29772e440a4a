import java.util.NoSuchElementException;
import java.util.function.Supplier;
import java.util.function.ToLongFunction;

/**
 * Each STATUS that a promise lists, in the order in which it is asked; and a call with another STATUS than 0 gives
 * NONE or false and changes nothing else. Every wrong call is made on an object of its own.
 */
public final class StatusTest {
    private static final int LEAST = Integer.MIN_VALUE;
    private static final int GREATEST = Integer.MAX_VALUE;
    private static final Check C = new Check("StatusTest");

    public static void main(String[] args) {
        sheets();
        beaters();
        asked();
        spans();
        emptyBench();
        fullBench();
        noRounds();
        C.end();
    }

    /** A bench with something of everything: SHEET 3 is MISSING, SHEET 1 of another sort. */
    private static BeatBench rich() {
        BeatBench x = new BeatBench();
        x.sheet(0, 2, 4);
        x.write(0, 0, 2);
        x.write(0, 1, 4);
        x.write(0, 2, 6);
        x.write(0, 3, -7);
        x.sheet(1, 0, 3);
        x.write(1, 1, -2);
        x.sheet(2, 2, 2);
        x.write(2, 0, 3);
        x.write(2, 1, 4097);
        x.ring(6);
        x.beater(2, 5);
        x.beater(2, 1);
        x.beater(1, 2);
        x.road(0, 1, true);
        x.road(1, 0, true);
        x.road(2, 0, true);
        x.push(0, 2);
        x.ends();
        x.lead();
        x.go(3);
        x.table(3);
        x.span(0, 1, -3);
        x.span(1, 0, 2);
        x.span(2, 2, -1);
        x.critical();
        return x;
    }

    /** All that can be asked without a change, as a text. */
    private static String told(BeatBench x) {
        StringBuilder b = new StringBuilder();
        for (int s = 0; s < 4; s++) for (int p = 0; p < 5; p++) add(b, x, x.read(s, p));
        for (int w = 0; w < 4; w++) add(b, x, x.count(w));
        for (int k = 0; k < 3; k++) for (int w = 0; w < 4; w++) add(b, x, x.beats(k, w));
        for (int k = 0; k < 24; k++) for (int w = 0; w < 3; w++) add(b, x, x.end(k, w));
        for (int k = 0; k < 3; k++) add(b, x, x.leader(k));
        for (int w = 0; w < 2; w++) add(b, x, x.round(w));
        for (int set = 0; set < 8; set++) add(b, x, x.meet(set));
        for (int i = 0; i < 4; i++) for (int j = 0; j < 4; j++) add(b, x, x.sums(1, i, j));
        for (int k = 0; k < 4; k++) {
            try {
                b.append(x.out(k)).append(' ');
            } catch (NoSuchElementException none) {
                b.append("none ");
            }
        }
        return b.toString();
    }

    private static void add(StringBuilder b, BeatBench x, long answer) {
        b.append(answer).append('/').append(x.status()).append(' ');
    }

    private static void no(Supplier<BeatBench> made, String call, int status, ToLongFunction<BeatBench> wrong) {
        String before = told(made.get());
        BeatBench x = made.get();
        C.none(x, call, wrong.applyAsLong(x), status);
        C.due(call + " changes nothing", told(x).equals(before), true);
    }

    private static void no(String call, int status, ToLongFunction<BeatBench> wrong) {
        no(StatusTest::rich, call, status, wrong);
    }

    /** A boolean false counts as NONE here. */
    private static long f(boolean answer) {
        return answer ? 1 : BeatBench.NONE;
    }

    private static void sheets() {
        sheet(1, -1, 0, 5);
        sheet(1, 4, 0, 5);
        sheet(1, 4, 0, 101);
        sheet(1, 4, 0, -1);
        sheet(1, LEAST, 0, 5);
        sheet(1, 0, -1, 5);
        sheet(1, 0, 4, 5);
        sheet(1, 3, 4, 5);
        sheet(1, 0, 4, 101);
        sheet(1, 0, 4, -1);
        sheet(2, 0, 2, 101);
        sheet(2, 3, 2, GREATEST);
        sheet(6, 0, 2, -1);
        sheet(6, 3, 2, LEAST);
        place(1, -1, 0);
        place(1, 4, 0);
        place(1, GREATEST, -1);
        place(3, 3, 0);
        place(3, 3, -1);
        place(4, 0, -1);
        place(4, 0, 4);
        place(4, 1, 3);
        place(4, 0, LEAST);
        place(4, 0, GREATEST);
        pour(1, -1, 0, 0, 0, 1);
        pour(1, 0, 0, 4, 0, 1);
        pour(1, 3, 0, 4, 0, 1);
        pour(1, 4, 0, 3, 0, -1);
        pour(3, 3, 0, 0, 0, 1);
        pour(3, 0, 0, 3, 0, 1);
        pour(3, 3, -1, 1, -1, -1);
        pour(11, 0, 0, 1, 0, 1);
        pour(11, 1, 0, 0, 0, 1);
        pour(11, 0, -1, 1, 0, -1);
        pour(6, 0, 0, 2, 0, -1);
        pour(6, 0, -1, 2, 9, -1);
        pour(6, 0, 0, 0, 0, LEAST);
        pour(4, 0, -1, 2, 0, 1);
        pour(4, 0, 0, 2, -1, 1);
        pour(4, 0, 4, 2, 0, 1);
        pour(4, 0, 3, 2, 0, 2);
        pour(4, 0, 0, 2, 0, 3);
        pour(4, 0, 0, 2, 2, 1);
        pour(4, 0, GREATEST, 2, 0, GREATEST);
        pour(4, 0, 1, 0, 2, GREATEST);
        pour(4, 0, 5, 0, 0, 0);
    }

    private static void sheet(int status, int sheet, int sort, int many) {
        no("sheet(" + sheet + ", " + sort + ", " + many + ")", status, x -> f(x.sheet(sheet, sort, many)));
    }

    private static void place(int status, int sheet, int place) {
        no("write(" + sheet + ", " + place + ", 1)", status, x -> f(x.write(sheet, place, 1)));
        no("read(" + sheet + ", " + place + ")", status, x -> x.read(sheet, place));
    }

    private static void pour(int status, int sheet, int i, int to, int j, int many) {
        no("pour(" + sheet + ", " + i + ", " + to + ", " + j + ", " + many + ")", status,
            x -> f(x.pour(sheet, i, to, j, many)));
    }

    private static void beaters() {
        for (int parts : new int[] {LEAST, -2, 0, 1, 4097, GREATEST}) {
            no("ring(" + parts + ")", 2, x -> f(x.ring(parts)));
        }
        for (int kind : new int[] {LEAST, -1, 4, GREATEST}) {
            no("beater(" + kind + ", 0)", 2, x -> x.beater(kind, 0));
            no("kind(0, " + kind + ")", 2, x -> f(x.kind(0, kind)));
        }
        for (int phase : new int[] {LEAST, -1, 6, 12, GREATEST}) {
            no("beater(0, " + phase + ")", 2, x -> x.beater(0, phase));
            no("turn(0, " + phase + ")", 2, x -> f(x.turn(0, phase)));
        }
        for (int b : new int[] {LEAST, -1, 3, 24, GREATEST}) {
            no("kind(" + b + ", 0)", 2, x -> f(x.kind(b, 0)));
            no("turn(" + b + ", 0)", 2, x -> f(x.turn(b, 0)));
            no("road(" + b + ", 0, true)", 2, x -> f(x.road(b, 0, true)));
            no("road(0, " + b + ", true)", 2, x -> f(x.road(0, b, true)));
            no("road(0, " + b + ", false)", 2, x -> f(x.road(0, b, false)));
            no("beats(" + b + ", 0)", 2, x -> x.beats(b, 0));
        }
        no("phases(-1)", 1, x -> f(x.phases(-1)));
        no("phases(4)", 1, x -> f(x.phases(4)));
        no("phases(3)", 3, x -> f(x.phases(3)));
        no("phases(2): too short, and a number that is none", 4, x -> f(x.phases(2)));
        no("phases(1): a number below 0", 2, x -> f(x.phases(1)));
        no("phases(0): the ring's own number", 2, x -> f(x.phases(0)));
        no("push(-1, 0)", 1, x -> f(x.push(-1, 0)));
        no("push(4, 1)", 1, x -> f(x.push(4, 1)));
        no("push(3, 0)", 3, x -> f(x.push(3, 0)));
        no("push(0, 0)", 2, x -> f(x.push(0, 0)));
        no("push(0, -1)", 2, x -> f(x.push(0, LEAST)));
        no("push(0, 17): 2 ahead of 4", 2, x -> f(x.push(0, 17)));
        no("push(0, 5)", 4, x -> f(x.push(0, 5)));
        no("push(2, 3): 4 ahead of a wrong number", 4, x -> f(x.push(2, 3)));
        no("push(2, 2): 4,097", 2, x -> f(x.push(2, 2)));
        no("push(0, 4): below 0", 2, x -> f(x.push(0, 4)));
        for (int what : new int[] {LEAST, -1, 4, GREATEST}) {
            no("roads(" + what + ")", 2, x -> f(x.roads(what)));
            no("count(" + what + ")", 2, x -> x.count(what));
            no("beats(0, " + what + ")", 2, x -> x.beats(0, what));
        }
        for (int ticks : new int[] {LEAST, -1, 20001, GREATEST}) {
            no("go(" + ticks + ")", 2, x -> f(x.go(ticks)));
        }
    }

    private static void asked() {
        for (int set : new int[] {8, 9, 16, 1 << 24, 1 << 30, LEAST, -1, GREATEST}) {
            no("step(" + set + ")", 2, x -> x.step(set));
            no("arc(" + set + ")", 2, x -> x.arc(set));
            no("meet(" + set + ")", 2, x -> x.meet(set));
            no("sure(" + set + ")", 2, x -> x.sure(set));
        }
        no("arc(0)", 2, x -> x.arc(0));
        for (int what : new int[] {LEAST, -1, 2, GREATEST}) {
            no("round(" + what + ")", 2, x -> x.round(what));
            no("pace(" + what + ")", 2, x -> x.pace(what));
            no("again(" + what + ")", 2, x -> x.again(what));
        }
        for (int what : new int[] {LEAST, -1, 3, GREATEST}) {
            no("end(0, " + what + ")", 2, x -> x.end(0, what));
            no("end(-1, " + what + "): 2 ahead of 8", 2, x -> x.end(-1, what));
        }
        for (int k : new int[] {LEAST, -1, 216, GREATEST}) {
            no("end(" + k + ", 0)", 8, x -> x.end(k, 0));
            no("leader(" + k + ")", 8, x -> x.leader(k));
        }
        no("leader(1)", 8, x -> x.leader(1));
    }

    private static void spans() {
        for (int size : new int[] {LEAST, -1, 11, GREATEST}) {
            no("table(" + size + ")", 2, x -> f(x.table(size)));
        }
        for (int i : new int[] {LEAST, -1, 3, 10, GREATEST}) {
            no("span(" + i + ", 0, 0)", 2, x -> f(x.span(i, 0, 0)));
            no("span(0, " + i + ", 0)", 2, x -> f(x.span(0, i, 0)));
            no("cut(" + i + ", 0)", 2, x -> f(x.cut(i, 0)));
            no("cut(0, " + i + ")", 2, x -> f(x.cut(0, i)));
            no("sums(1, " + i + ", 0)", 2, x -> x.sums(1, i, 0));
            no("sums(0, 0, " + i + ")", 2, x -> x.sums(0, 0, i));
            no("longest(" + i + ", 0)", 2, x -> x.longest(i, 0));
            no("longest(0, " + i + ")", 2, x -> x.longest(0, i));
        }
        for (int v : new int[] {LEAST, -1048577, 1048577, GREATEST}) {
            no("span(0, 0, " + v + ")", 2, x -> f(x.span(0, 0, v)));
        }
        for (long n : new long[] {Long.MIN_VALUE, -1, 1_000_000_000_001L, Long.MAX_VALUE}) {
            no("sums(" + n + ", 0, 0)", 2, x -> x.sums(n, 0, 0));
        }
        no("cut(0, 0)", 8, x -> f(x.cut(0, 0)));
        no("sums(0, 1, 0)", 8, x -> x.sums(0, 1, 0));
        no("sums(1, 2, 0)", 8, x -> x.sums(1, 2, 0));
        no("sums(999999999999, 0, 0)", 8, x -> x.sums(999_999_999_999L, 0, 0));
        no("longest(2, 0)", 8, x -> x.longest(2, 0));
    }

    private static void emptyBench() {
        no(BeatBench::new, "round(0)", 8, x -> x.round(0));
        no(BeatBench::new, "round(2)", 2, x -> x.round(2));
        no(BeatBench::new, "lead()", 8, x -> x.lead());
        no(BeatBench::new, "leader(0)", 8, x -> x.leader(0));
        no(BeatBench::new, "ends()", 5, x -> x.ends());
        no(BeatBench::new, "end(0, 0)", 8, x -> x.end(0, 0));
        no(BeatBench::new, "sure(0)", 5, x -> x.sure(0));
        no(BeatBench::new, "sure(1)", 2, x -> x.sure(1));
        no(BeatBench::new, "meet(1)", 2, x -> x.meet(1));
        no(BeatBench::new, "kind(0, 0)", 2, x -> f(x.kind(0, 0)));
        no(() -> {
            BeatBench x = rich();
            x.ring(6);
            return x;
        }, "lead() keeps the earlier ones", 8, x -> x.lead());
    }

    /** 24 beaters of a ring of 6: one too many, and not SMALL. */
    private static BeatBench full() {
        BeatBench x = rich();
        for (int k = 3; k < 24; k++) {
            C.due("beater " + k, x.beater(0, 0), k);
        }
        return x;
    }

    private static void fullBench() {
        no(StatusTest::full, "beater(0, 0)", 7, x -> x.beater(0, 0));
        no(StatusTest::full, "beater(4, 0): 2 ahead of 7", 2, x -> x.beater(4, 0));
        no(StatusTest::full, "beater(0, 6): 2 ahead of 7", 2, x -> x.beater(0, 6));
        no(StatusTest::full, "ends()", 5, x -> x.ends());
        no(StatusTest::full, "sure(1)", 5, x -> x.sure(1));
        no(StatusTest::full, "sure(1 << 24): 2 ahead of 5", 2, x -> x.sure(1 << 24));
        no(StatusTest::full, "phases(0): 4 ahead of 2", 4, x -> f(x.phases(0)));
    }

    /** OUT is kept from a round that is cut since. */
    private static BeatBench cut() {
        BeatBench x = rich();
        x.cut(0, 1);
        x.cut(2, 2);
        return x;
    }

    private static void noRounds() {
        no(StatusTest::cut, "pace(0)", 8, x -> x.pace(0));
        no(StatusTest::cut, "pace(2): 2 ahead of 8", 2, x -> x.pace(2));
        no(StatusTest::cut, "critical()", 8, x -> x.critical());
        no(StatusTest::cut, "again(1)", 8, x -> x.again(1));
        no(StatusTest::cut, "again(2): 2 ahead of 8", 2, x -> x.again(2));
        no(BeatBench::new, "pace(1)", 8, x -> x.pace(1));
        no(BeatBench::new, "critical()", 8, x -> x.critical());
        no(BeatBench::new, "again(0)", 8, x -> x.again(0));
    }
}
