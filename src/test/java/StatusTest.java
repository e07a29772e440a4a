import java.util.function.Supplier;
import java.util.function.ToLongFunction;

/**
 * Terms, part 4, sentence by sentence: each STATUS with all calls that may have it, their order, and that a refused
 * call gives NONE or false and changes nothing. Every wrong call is made on an object of its own.
 */
public final class StatusTest {
    private static final int LEAST = Integer.MIN_VALUE;
    private static final int GREATEST = Integer.MAX_VALUE;
    private static final Check C = new Check("StatusTest");

    public static void main(String[] args) {
        noSuchSheet();
        cantBeOfSheets();
        cantBeOfBeaters();
        cantBeOfQuestions();
        cantBeOfSpans();
        missing();
        noPlace();
        notSmall();
        belowNought();
        tooMany();
        noneOfTheBench();
        noneOfTheTable();
        aboveNought();
        spent();
        unlikeSorts();
        noughtElse();
        theFirstThatHolds();
        theFirstThatHoldsOfPour();
        callsWithoutStatus();
        C.end();
    }

    // ---- objects with something of everything

    /** SHEET 3 is MISSING, SHEET 1 of another sort, SHEET 2 has a number that no PHASE nor push can be. */
    private static BeatBench rich() {
        BeatBench x = new BeatBench();
        x.sheet(0, 2, 4);
        x.write(0, 0, 2);
        x.write(0, 1, 4);
        x.write(0, 2, 6);
        x.write(0, 3, -7);
        x.sheet(1, 0, 3);
        x.write(1, 1, -2);
        x.sheet(2, 2, 2);
        x.write(2, 0, 3);
        x.write(2, 1, 4097);
        x.ring(6);
        x.beater(2, 5);
        x.beater(2, 1);
        x.beater(1, 2);
        x.road(0, 1, true);
        x.road(1, 0, true);
        x.road(2, 0, true);
        x.push(0, 2);
        x.ends();
        x.lead();
        x.go(3);
        x.table(3);
        x.span(0, 1, -3);
        x.span(1, 0, 2);
        x.span(2, 2, -1);
        x.critical();
        return x;
    }

    /** All that rich() has, but for its BEATERS: ENDS and LEAD are kept. */
    private static BeatBench withoutBeaters() {
        BeatBench x = rich();
        x.ring(6);
        return x;
    }

    private static BeatBench with(int beaters) {
        BeatBench x = rich();
        for (int k = 3; k < beaters; k++) x.beater(k % 4, 0);
        return x;
    }

    /** OUT is kept from a round that is cut since. */
    private static BeatBench withoutRounds() {
        BeatBench x = rich();
        x.cut(0, 1);
        x.cut(2, 2);
        return x;
    }

    private static BeatBench withRoundAboveNought() {
        BeatBench x = rich();
        x.span(2, 2, 1);
        return x;
    }

    /** A pair with a round of 799, and a PLAIN one's of 2,500: no end within 20,000. */
    private static BeatBench withoutEnd() {
        BeatBench x = rich();
        x.write(0, 0, 1701);
        x.push(0, 1);
        x.ring(2500);
        x.beater(2, 2499);
        x.beater(2, 299);
        x.beater(0, 0);
        x.road(0, 1, true);
        x.road(1, 0, true);
        x.go(2);
        x.table(3);
        x.span(0, 0, 1);
        x.span(1, 1, 0);
        return x;
    }

    private static void no(Supplier<BeatBench> made, String call, int status, ToLongFunction<BeatBench> wrong) {
        String before = Probe.told(made.get());
        BeatBench x = made.get();
        C.none(x, call, wrong.applyAsLong(x), status);
        C.due(call + " changes nothing", Probe.told(x).equals(before), true);
    }

    private static void no(String call, int status, ToLongFunction<BeatBench> wrong) {
        no(StatusTest::rich, call, status, wrong);
    }

    /** A boolean false counts as NONE here. */
    private static long f(boolean answer) {
        return answer ? 1 : BeatBench.NONE;
    }

    private static void sheet(int status, int sheet, int sort, int many) {
        no("sheet(" + sheet + ", " + sort + ", " + many + ")", status, x -> f(x.sheet(sheet, sort, many)));
    }

    private static void place(int status, int sheet, int place) {
        no("write(" + sheet + ", " + place + ", 1)", status, x -> f(x.write(sheet, place, 1)));
        no("read(" + sheet + ", " + place + ")", status, x -> x.read(sheet, place));
    }

    private static void pour(int status, int sheet, int i, int to, int j, int many) {
        no("pour(" + sheet + ", " + i + ", " + to + ", " + j + ", " + many + ")", status,
            x -> f(x.pour(sheet, i, to, j, many)));
    }

    private static void phases(int status, int sheet) {
        no("phases(" + sheet + ")", status, x -> f(x.phases(sheet)));
    }

    private static void push(int status, int sheet, int many) {
        no("push(" + sheet + ", " + many + ")", status, x -> f(x.push(sheet, many)));
    }

    // ---- each STATUS

    private static void noSuchSheet() {
        C.about("1 no such SHEET (or sort).");
        for (int s : new int[] {LEAST, -1, 4, GREATEST}) {
            sheet(1, s, 2, 5);
            sheet(1, 0, s, 5);
            sheet(1, 3, s, 5);
            place(1, s, 0);
            pour(1, s, 0, 0, 0, 1);
            pour(1, 0, 0, s, 0, 1);
            pour(1, s, 0, s, 0, 1);
            phases(1, s);
            push(1, s, 1);
        }
    }

    private static void cantBeOfSheets() {
        C.about("2 a number that can't be;");
        for (int many : new int[] {101, 102, GREATEST}) {
            for (int sort = 0; sort < 4; sort++) sheet(2, 0, sort, many);
            sheet(2, 3, 2, many);
        }
        phases(2, 0);
        phases(2, 1);
        for (int many : new int[] {LEAST, -1, 0, 17, GREATEST}) push(2, 0, many);
        push(2, 2, 2);
        push(2, 0, 4);
        push(2, 1, 2);
    }

    private static void cantBeOfBeaters() {
        C.about("2 a number that can't be; no such BEATER.");
        for (int parts : new int[] {LEAST, -2, 0, 1, 4097, GREATEST}) {
            no("ring(" + parts + ")", 2, x -> f(x.ring(parts)));
        }
        for (int kind : new int[] {LEAST, -1, 4, GREATEST}) {
            no("beater(" + kind + ", 0)", 2, x -> x.beater(kind, 0));
            no("kind(0, " + kind + ")", 2, x -> f(x.kind(0, kind)));
        }
        for (int phase : new int[] {LEAST, -1, 6, 12, GREATEST}) {
            no("beater(0, " + phase + ")", 2, x -> x.beater(0, phase));
            no("turn(0, " + phase + ")", 2, x -> f(x.turn(0, phase)));
        }
        for (int b : new int[] {LEAST, -1, 3, 24, 32, GREATEST}) {
            no("kind(" + b + ", 0)", 2, x -> f(x.kind(b, 0)));
            no("turn(" + b + ", 0)", 2, x -> f(x.turn(b, 0)));
            no("road(" + b + ", 0, true)", 2, x -> f(x.road(b, 0, true)));
            no("road(0, " + b + ", true)", 2, x -> f(x.road(0, b, true)));
            no("road(0, " + b + ", false)", 2, x -> f(x.road(0, b, false)));
            no("road(" + b + ", " + b + ", true)", 2, x -> f(x.road(b, b, true)));
            no("beats(" + b + ", 0)", 2, x -> x.beats(b, 0));
        }
        no(StatusTest::withoutBeaters, "kind(0, 0)", 2, x -> f(x.kind(0, 0)));
        no(StatusTest::withoutBeaters, "turn(0, 0)", 2, x -> f(x.turn(0, 0)));
        no(StatusTest::withoutBeaters, "road(0, 0, true)", 2, x -> f(x.road(0, 0, true)));
        no(StatusTest::withoutBeaters, "beats(0, 0)", 2, x -> x.beats(0, 0));
        for (int what : new int[] {LEAST, -1, 4, GREATEST}) no("roads(" + what + ")", 2, x -> f(x.roads(what)));
        for (int ticks : new int[] {LEAST, -1, 20001, GREATEST}) no("go(" + ticks + ")", 2, x -> f(x.go(ticks)));
    }

    private static void cantBeOfQuestions() {
        C.about("2 a number that can't be;");
        for (int what : new int[] {LEAST, -1, 4, GREATEST}) {
            no("count(" + what + ")", 2, x -> x.count(what));
            no("beats(0, " + what + ")", 2, x -> x.beats(0, what));
        }
        for (int set : new int[] {8, 9, 15, 16, 1 << 24, 1 << 30, LEAST, -1, GREATEST}) {
            no("step(" + set + ")", 2, x -> x.step(set));
            no("arc(" + set + ")", 2, x -> x.arc(set));
            no("meet(" + set + ")", 2, x -> x.meet(set));
            no("sure(" + set + ")", 2, x -> x.sure(set));
        }
        no("arc(0)", 2, x -> x.arc(0));
        for (int what : new int[] {LEAST, -1, 2, GREATEST}) no("round(" + what + ")", 2, x -> x.round(what));
        for (int what : new int[] {LEAST, -1, 3, GREATEST}) no("end(0, " + what + ")", 2, x -> x.end(0, what));
    }

    private static void cantBeOfSpans() {
        C.about("2 a number that can't be;");
        for (int size : new int[] {LEAST, -1, 11, GREATEST}) no("table(" + size + ")", 2, x -> f(x.table(size)));
        for (int i : new int[] {LEAST, -1, 3, 10, GREATEST}) {
            no("span(" + i + ", 0, 0)", 2, x -> f(x.span(i, 0, 0)));
            no("span(0, " + i + ", 0)", 2, x -> f(x.span(0, i, 0)));
            no("cut(" + i + ", 0)", 2, x -> f(x.cut(i, 0)));
            no("cut(0, " + i + ")", 2, x -> f(x.cut(0, i)));
            no("sums(1, " + i + ", 0)", 2, x -> x.sums(1, i, 0));
            no("sums(0, 0, " + i + ")", 2, x -> x.sums(0, 0, i));
            no("longest(" + i + ", 0)", 2, x -> x.longest(i, 0));
            no("longest(0, " + i + ")", 2, x -> x.longest(0, i));
        }
        for (int v : new int[] {LEAST, -1048577, 1048577, GREATEST}) {
            no("span(0, 0, " + v + ")", 2, x -> f(x.span(0, 0, v)));
            no("span(0, 1, " + v + ")", 2, x -> f(x.span(0, 1, v)));
        }
        for (long n : new long[] {Long.MIN_VALUE, -1, 1_000_000_000_001L, Long.MAX_VALUE}) {
            no("sums(" + n + ", 0, 0)", 2, x -> x.sums(n, 0, 0));
        }
        for (int what : new int[] {LEAST, -1, 2, GREATEST}) {
            no("pace(" + what + ")", 2, x -> x.pace(what));
            no("again(" + what + ")", 2, x -> x.again(what));
        }
    }

    private static void missing() {
        C.about("3 the SHEET is MISSING.");
        place(3, 3, 0);
        pour(3, 3, 0, 0, 0, 1);
        pour(3, 0, 0, 3, 0, 1);
        pour(3, 3, 0, 3, 0, 0);
        phases(3, 3);
        push(3, 3, 1);
    }

    private static void noPlace() {
        C.about("4 a place that the SHEET has not.");
        for (int place : new int[] {LEAST, -1, 4, 100, GREATEST}) {
            place(4, 0, place);
            pour(4, 0, place, 2, 0, 1);
            pour(4, 2, 0, 0, place, 1);
        }
        place(4, 1, 3);
        pour(4, 0, 3, 2, 0, 2);
        pour(4, 0, 0, 2, 0, 3);
        pour(4, 2, 0, 0, 3, 2);
        pour(4, 0, 0, 0, 1, 4);
        pour(4, 0, 0, 0, 0, 5);
        pour(4, 0, 1, 0, 2, GREATEST);
        pour(4, 0, GREATEST, 0, 0, GREATEST);
        pour(4, 0, 0, 0, GREATEST, GREATEST);
        // Even for no numbers: there is no place 5 to begin at, nor -1.
        pour(4, 0, 5, 0, 0, 0);
        pour(4, 0, 0, 0, 5, 0);
        pour(4, 0, -1, 0, 0, 0);
        pour(4, 0, 0, 0, -1, 0);
        phases(4, 2);
        push(4, 0, 5);
        push(4, 0, 16);
        push(4, 1, 4);
    }

    private static void notSmall() {
        C.about("5 the bench is not SMALL.");
        no(StatusTest::withoutBeaters, "ends() of none", 5, x -> x.ends());
        no(StatusTest::withoutBeaters, "sure(0) of none", 5, x -> x.sure(0));
        // 6 to the power of 5 is 7,776, of 6 it is 46,656.
        for (int beaters : new int[] {6, 12, 24}) {
            no(() -> with(beaters), "ends() of " + beaters, 5, x -> x.ends());
            no(() -> with(beaters), "sure(1) of " + beaters, 5, x -> x.sure(1));
        }
        BeatBench five = with(5);
        C.due(five, "sure(0) of 5", five.sure(0), 7776, 0);
    }

    private static void belowNought() {
        C.about("6 below 0 (a SHEET's length).");
        for (int many : new int[] {-1, -2, LEAST}) {
            for (int sort = 0; sort < 4; sort++) sheet(6, 0, sort, many);
            sheet(6, 3, 0, many);
            pour(6, 0, 0, 2, 0, many);
            pour(6, 0, 0, 0, 0, many);
        }
    }

    private static void tooMany() {
        C.about("7 one too many.");
        no(() -> with(24), "beater(0, 0)", 7, x -> x.beater(0, 0));
        no(() -> with(24), "beater(3, 5)", 7, x -> x.beater(3, 5));
        BeatBench x = with(23);
        C.due(x, "the 24th", x.beater(3, 5), 23, 0);
    }

    private static void noneOfTheBench() {
        C.about("8 there is none.");
        no(StatusTest::withoutBeaters, "round(0)", 8, x -> x.round(0));
        no(StatusTest::withoutBeaters, "round(1)", 8, x -> x.round(1));
        no(StatusTest::withoutBeaters, "lead()", 8, x -> x.lead());
        no(() -> neverInStep(), "meet(3)", 8, x -> x.meet(3));
        no(() -> neverInStep(), "meet(15)", 8, x -> x.meet(15));
        for (int k : new int[] {LEAST, -1, 216, GREATEST}) {
            for (int what = 0; what < 3; what++) {
                int w = what;
                no("end(" + k + ", " + w + ")", 8, x -> x.end(k, w));
            }
            no("leader(" + k + ")", 8, x -> x.leader(k));
        }
        no("leader(1)", 8, x -> x.leader(1));
        no(BeatBench::new, "leader(0)", 8, x -> x.leader(0));
        no(BeatBench::new, "end(0, 0)", 8, x -> x.end(0, 0));
    }

    private static BeatBench neverInStep() {
        BeatBench x = rich();
        x.roads(0);
        x.turn(0, 0);
        x.turn(1, 1);
        x.beater(0, 0);
        return x;
    }

    private static void noneOfTheTable() {
        C.about("8 there is none.");
        no("cut(0, 0)", 8, x -> f(x.cut(0, 0)));
        no("cut(2, 0)", 8, x -> f(x.cut(2, 0)));
        no("sums(0, 1, 0)", 8, x -> x.sums(0, 1, 0));
        no("sums(1, 2, 0)", 8, x -> x.sums(1, 2, 0));
        no("sums(999999999999, 0, 0)", 8, x -> x.sums(999_999_999_999L, 0, 0));
        no("longest(2, 0)", 8, x -> x.longest(2, 0));
        no("longest(0, 2)", 8, x -> x.longest(0, 2));
        for (int what = 0; what < 2; what++) {
            int w = what;
            no(StatusTest::withoutRounds, "pace(" + w + ")", 8, x -> x.pace(w));
            no(StatusTest::withoutRounds, "again(" + w + ")", 8, x -> x.again(w));
            no(BeatBench::new, "pace(" + w + ")", 8, x -> x.pace(w));
            no(BeatBench::new, "again(" + w + ")", 8, x -> x.again(w));
        }
        no(StatusTest::withoutRounds, "critical()", 8, x -> x.critical());
        no(BeatBench::new, "critical()", 8, x -> x.critical());
    }

    private static void aboveNought() {
        C.about("9 a round's sum is above 0.");
        no(StatusTest::withRoundAboveNought, "longest(2, 2)", 9, x -> x.longest(2, 2));
        no(StatusTest::withRoundAboveNought, "longest(0, 0)", 9, x -> x.longest(0, 0));
        no(StatusTest::withRoundAboveNought, "longest(0, 1)", 9, x -> x.longest(0, 1));
    }

    private static void spent() {
        C.about("10 SPENT.");
        for (int what = 0; what < 2; what++) {
            int w = what;
            no(StatusTest::withoutEnd, "round(" + w + ")", 10, x -> x.round(w));
            no(StatusTest::withoutEnd, "again(" + w + ")", 10, x -> x.again(w));
        }
        no(StatusTest::withoutEnd, "meet(3)", 10, x -> x.meet(3));
    }

    private static void unlikeSorts() {
        C.about("11 SHEETS of unlike sorts.");
        pour(11, 0, 0, 1, 0, 1);
        pour(11, 1, 0, 0, 0, 1);
        pour(11, 0, 0, 1, 0, 0);
        for (int a = 0; a < 4; a++) {
            for (int b = 0; b < 4; b++) {
                BeatBench x = new BeatBench();
                x.sheet(0, a, 1);
                x.sheet(1, b, 1);
                C.due(x, "pour of sort " + a + " to " + b, f(x.pour(0, 0, 1, 0, 1)), a == b ? 1 : -1, a == b ? 0 : 11);
            }
        }
    }

    /** Each call that has a STATUS, behind one that was refused. */
    private static void noughtElse() {
        C.about("0 else.");
        fine("sheet", x -> f(x.sheet(0, 0, 100)));
        fine("write", x -> f(x.write(0, 0, 1)));
        fine("read", x -> x.read(0, 0));
        fine("pour", x -> f(x.pour(0, 0, 2, 0, 2)));
        fine("ring", x -> f(x.ring(7)));
        fine("beater", x -> x.beater(0, 0));
        fine("kind", x -> f(x.kind(0, 0)));
        fine("turn", x -> f(x.turn(0, 0)));
        fine("phases", x -> f(x.write(0, 2, 0) && x.count(9) < 0 && x.phases(0)));
        fine("road", x -> f(x.road(0, 0, true)));
        fine("roads", x -> f(x.roads(3)));
        fine("push", x -> f(x.push(0, 3)));
        fine("clear", x -> f(x.clear()));
        fine("go", x -> f(x.go(0)));
        fine("count", x -> x.count(0));
        fine("beats", x -> x.beats(0, 0));
        fine("step", x -> x.step(0));
        fine("arc", x -> x.arc(7));
        fine("round", x -> x.round(0));
        fine("meet", x -> x.meet(0));
        fine("ends", x -> x.ends());
        fine("end", x -> x.end(0, 0));
        fine("sure", x -> x.sure(0));
        fine("lead", x -> x.lead());
        fine("leader", x -> x.leader(0));
        fine("table", x -> f(x.table(0)));
        fine("span", x -> f(x.span(0, 0, 0)));
        fine("cut", x -> f(x.cut(0, 1)));
        fine("pace", x -> x.pace(1));
        fine("critical", x -> x.critical());
        fine("sums", x -> x.sums(0, 0, 0));
        fine("longest", x -> x.longest(0, 0));
        fine("again", x -> x.cut(2, 2) && x.count(9) < 0 ? x.again(1) : BeatBench.NONE);
        // An answer of -1 that is none such.
        BeatBench x = rich();
        C.none(x, "count(4)", x.count(4), 2);
        C.due(x, "pace(0)", x.pace(0), -1, 0);
    }

    private static void fine(String call, ToLongFunction<BeatBench> right) {
        BeatBench x = rich();
        C.none(x, "count(4)", x.count(4), 2);
        C.due(call + " answers", right.applyAsLong(x) >= 0, true);
        C.due("status() behind " + call, x.status(), 0);
    }

    private static void theFirstThatHolds() {
        C.about("STATUS of a call is the first of these that holds:");
        sheet(1, 4, 0, 101);
        sheet(1, -1, 2, -1);
        sheet(1, 0, 4, 101);
        sheet(1, 0, -1, -1);
        place(1, GREATEST, -1);
        place(3, 3, -1);
        phases(1, 4);
        phases(4, 2);
        push(1, -1, 0);
        push(3, 3, 0);
        push(2, 0, 17);
        push(2, 2, 17);
        push(4, 2, 3);
        no(() -> with(24), "beater(4, 0): 2 ahead of 7", 2, x -> x.beater(4, 0));
        no(() -> with(24), "beater(0, 6): 2 ahead of 7", 2, x -> x.beater(0, 6));
        no(() -> with(24), "phases(0): 4 ahead of a wrong number", 4, x -> f(x.phases(0)));
        no(StatusTest::withoutBeaters, "round(2): 2 ahead of 8", 2, x -> x.round(2));
        no(StatusTest::withoutEnd, "round(2): 2 ahead of 10", 2, x -> x.round(2));
        no(StatusTest::withoutEnd, "meet(8): 2 ahead of 10", 2, x -> x.meet(8));
        no("end(-1, 3): 2 ahead of 8", 2, x -> x.end(-1, 3));
        no("end(216, -1): 2 ahead of 8", 2, x -> x.end(216, -1));
        no(() -> with(24), "sure(1 << 24): 2 ahead of 5", 2, x -> x.sure(1 << 24));
        no(StatusTest::withoutBeaters, "sure(1): 2 ahead of 5", 2, x -> x.sure(1));
        no(StatusTest::withoutRounds, "pace(2): 2 ahead of 8", 2, x -> x.pace(2));
        no(StatusTest::withoutRounds, "again(2): 2 ahead of 8", 2, x -> x.again(2));
        no(StatusTest::withoutEnd, "again(-1): 2 ahead of 10", 2, x -> x.again(-1));
        no("sums(-1, 1, 0): 2 ahead of 8", 2, x -> x.sums(-1, 1, 0));
        no(StatusTest::withRoundAboveNought, "longest(3, 0): 2 ahead of 9", 2, x -> x.longest(3, 0));
        no(StatusTest::withRoundAboveNought, "longest(2, 0): 8 ahead of 9", 8, x -> x.longest(2, 0));
    }

    private static void theFirstThatHoldsOfPour() {
        C.about("1, 3 (either), 11, 6, 4, asked in this order.");
        pour(1, 3, 0, 4, 0, 1);
        pour(1, 4, 0, 3, 0, -1);
        pour(1, 4, 9, 1, 9, -1);
        pour(3, 3, -1, 1, -1, -1);
        pour(3, 1, -1, 3, -1, -1);
        pour(11, 0, -1, 1, 0, -1);
        pour(11, 1, 9, 0, 9, 1);
        pour(6, 0, -1, 2, 9, -1);
        pour(6, 0, 9, 0, 9, LEAST);
    }

    private static void callsWithoutStatus() {
        C.about("A call with another STATUS than 0 gives NONE, or false, and changes nothing but STATUS. "
            + "status() and out() have none.");
        BeatBench x = rich();
        C.no(x, "sheet(0, 0, -1)", x.sheet(0, 0, -1), 6);
        C.due("status() again", x.status(), 6);
        C.due("out(0)", x.out(0), 0);
        C.due("status() behind out(0)", x.status(), 6);
        C.outIsNone(x, 2);
        C.outIsNone(x, -1);
        C.due("status() behind out(-1)", x.status(), 6);
    }
}
