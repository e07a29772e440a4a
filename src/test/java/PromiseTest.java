/** The promises, 1 to 36, each by its own words: what it does at its edges, and which STATUS it may have. */
public final class PromiseTest {
    private static final int PLAIN = 0;
    private static final int PULLED = 1;
    private static final int FIRING = 2;
    private static final int LEAST = Integer.MIN_VALUE;
    private static final int GREATEST = Integer.MAX_VALUE;
    private static final Check C = new Check("PromiseTest");

    public static void main(String[] args) {
        sheetPromises();
        benchPromises();
        askingPromises();
        sumPromises();
        promised512Calls();
        C.end();
    }

    private static void sheetPromises() {
        promise1();
        promise2();
        promise3();
        promise4();
        promise5();
        promise6();
        promise6Over();
    }

    private static void benchPromises() {
        promise7();
        promise8();
        promise9();
        promise10();
        promise11();
        promise12();
        promise13();
        promise13OfFew();
        promise14();
        promise15();
        promise16();
    }

    private static void askingPromises() {
        promise17();
        promise18();
        promise19();
        promise20();
        promise21();
        promise22();
        promise23();
        promise24();
        promise25();
        promise26();
        promise27();
    }

    private static void sumPromises() {
        promise28();
        promise29();
        promise30();
        promise31();
        promise32();
        promise33();
        promise34();
        promise35();
        promise36();
    }

    private static BeatBench bench(int ring, int kind, int... phases) {
        BeatBench x = new BeatBench();
        x.ring(ring);
        for (int phase : phases) x.beater(kind, phase);
        return x;
    }

    private static void state(BeatBench x, String when, int... phases) {
        for (int k = 0; k < phases.length; k++) {
            C.due(x, "PHASE of " + k + " " + when, x.beats(k, 0), phases[k], 0);
        }
    }

    private static BeatBench sheetOf(long... numbers) {
        BeatBench x = new BeatBench();
        x.sheet(0, 3, numbers.length);
        for (int k = 0; k < numbers.length; k++) x.write(0, k, numbers[k]);
        return x;
    }

    private static void row(BeatBench x, int sheet, long... due) {
        for (int k = 0; k < due.length; k++) {
            C.due(x, "read(" + sheet + ", " + k + ")", x.read(sheet, k), due[k], 0);
        }
        C.none(x, "read behind the last", x.read(sheet, due.length), 4);
    }

    // ---- SHEETS

    private static void promise1() {
        C.about("SHEETS are MISSING, no BEATERS, no SPANS; STATUS 0.");
        BeatBench x = new BeatBench();
        C.due("status()", x.status(), 0);
        for (int s = 0; s < 4; s++) C.none(x, "read(" + s + ", 0)", x.read(s, 0), 3);
        C.due(x, "count(2)", x.count(2), 0, 0);
        C.none(x, "beats(0, 0)", x.beats(0, 0), 2);
        for (int k = 0; k < 100; k++) C.no(x, "cut", x.cut(k / 10, k % 10), 8);
        C.none(x, "pace(0)", x.pace(0), 8);
        BeatBench y = new BeatBench();
        C.due("status() of one more object", y.status(), 0);
    }

    private static void promise2() {
        C.about("The STATUS of the latest call that has one.");
        BeatBench x = new BeatBench();
        C.due("status()", x.status(), 0);
        x.count(9);
        x.read(0, 0);
        C.due("status() of read()", x.status(), 3);
        C.due("status() behind status()", x.status(), 3);
        C.outIsNone(x, 0);
        C.due("status() behind out()", x.status(), 3);
        x.clear();
        C.due("status() of clear()", x.status(), 0);
        BeatBench y = new BeatBench();
        y.count(9);
        C.due("status() of the other one", x.status(), 0);
    }

    private static void promise3() {
        C.about("A SHEET is a row of so many numbers (at most 100; 2), all 0 (1; 2; 6).");
        BeatBench x = new BeatBench();
        for (int many : new int[] {0, 1, 99, 100}) {
            C.yes(x, "sheet(0, 2, " + many + ")", x.sheet(0, 2, many));
            C.none(x, "read(0, " + many + ")", x.read(0, many), 4);
            if (many > 0) {
                C.due(x, "the last", x.read(0, many - 1), 0, 0);
                C.yes(x, "write the last", x.write(0, many - 1, 5));
                C.yes(x, "write the first", x.write(0, 0, 6));
            }
        }
        C.no(x, "sheet(0, 2, 101)", x.sheet(0, 2, 101), 2);
        C.no(x, "sheet(0, 2, GREATEST)", x.sheet(0, 2, GREATEST), 2);
        C.no(x, "sheet(0, 2, -1)", x.sheet(0, 2, -1), 6);
        C.no(x, "sheet(0, 2, LEAST)", x.sheet(0, 2, LEAST), 6);
        C.no(x, "sheet(4, 2, 1)", x.sheet(4, 2, 1), 1);
        C.no(x, "sheet(0, 4, 1)", x.sheet(0, 4, 1), 1);
        C.due(x, "as it was", x.read(0, 99), 5, 0);
        C.due(x, "as it was", x.read(0, 0), 6, 0);
        C.yes(x, "a new one of 1", x.sheet(0, 0, 1));
        row(x, 0, 0);
        C.yes(x, "and of 100: all 0", x.sheet(0, 0, 100));
        for (int k = 0; k < 100; k++) C.due("read(0, " + k + ")", x.read(0, k), 0);
    }

    private static void promise4() {
        C.about("A number comes to a place of a SHEET (1; 3; 4).");
        BeatBench x = sheetOf(1, 2, 3);
        C.yes(x, "write(0, 0, 7)", x.write(0, 0, 7));
        row(x, 0, 7, 2, 3);
        C.yes(x, "write(0, 2, 9)", x.write(0, 2, 9));
        row(x, 0, 7, 2, 9);
        C.no(x, "write(4, 0, 1)", x.write(4, 0, 1), 1);
        C.no(x, "write(-1, 0, 1)", x.write(-1, 0, 1), 1);
        C.no(x, "write(1, 0, 1)", x.write(1, 0, 1), 3);
        C.no(x, "write(0, 3, 1)", x.write(0, 3, 1), 4);
        C.no(x, "write(0, -1, 1)", x.write(0, -1, 1), 4);
        C.yes(x, "sheet(1, 0, 0)", x.sheet(1, 0, 0));
        C.no(x, "write(1, 0, 1): a SHEET of none", x.write(1, 0, 1), 4);
        row(x, 0, 7, 2, 9);
    }

    private static void promise5() {
        C.about("The number in a place of a SHEET; STATUS tells NONE from -1 (1; 3; 4).");
        BeatBench x = sheetOf(-1, Long.MIN_VALUE, Long.MAX_VALUE);
        C.due(x, "read(0, 0): a -1", x.read(0, 0), -1, 0);
        C.none(x, "read(0, 3)", x.read(0, 3), 4);
        C.none(x, "read(0, -1)", x.read(0, -1), 4);
        C.due(x, "read(0, 0): a -1", x.read(0, 0), -1, 0);
        C.due(x, "read(0, 1)", x.read(0, 1), Long.MIN_VALUE, 0);
        C.due(x, "read(0, 2)", x.read(0, 2), Long.MAX_VALUE, 0);
        C.none(x, "read(1, 0)", x.read(1, 0), 3);
        C.none(x, "read(4, 0)", x.read(4, 0), 1);
        C.none(x, "read(-1, 0)", x.read(-1, 0), 1);
    }

    private static void promise6() {
        C.about("So many numbers from place i on of a SHEET come to place j on of another one, or the same, as they were: "
            + "1, 3 (either), 11, 6, 4, asked in this order.");
        BeatBench x = sheetOf(1, 2, 3, 4);
        x.sheet(1, 3, 3);
        x.sheet(2, 0, 4);
        C.yes(x, "pour(0, 1, 1, 0, 3): all of it", x.pour(0, 1, 1, 0, 3));
        row(x, 1, 2, 3, 4);
        C.yes(x, "pour(0, 0, 1, 2, 1): to the last", x.pour(0, 0, 1, 2, 1));
        row(x, 1, 2, 3, 1);
        C.yes(x, "pour(0, 4, 1, 3, 0): none, behind the last", x.pour(0, 4, 1, 3, 0));
        C.yes(x, "pour(0, 0, 1, 0, 0): none", x.pour(0, 0, 1, 0, 0));
        row(x, 1, 2, 3, 1);
        C.no(x, "pour(0, 0, 4, 0, 1)", x.pour(0, 0, 4, 0, 1), 1);
        C.no(x, "pour(-1, 0, 0, 0, 1)", x.pour(-1, 0, 0, 0, 1), 1);
        C.no(x, "pour(0, 0, 3, 0, 1)", x.pour(0, 0, 3, 0, 1), 3);
        C.no(x, "pour(3, 0, 0, 0, 1)", x.pour(3, 0, 0, 0, 1), 3);
        C.no(x, "pour(0, 0, 2, 0, 1)", x.pour(0, 0, 2, 0, 1), 11);
        C.no(x, "pour(0, 0, 1, 0, -1)", x.pour(0, 0, 1, 0, -1), 6);
        C.no(x, "pour(0, 0, 1, 0, 4)", x.pour(0, 0, 1, 0, 4), 4);
        C.no(x, "pour(0, 2, 1, 0, 3)", x.pour(0, 2, 1, 0, 3), 4);
        C.no(x, "pour(0, 0, 1, 1, 3)", x.pour(0, 0, 1, 1, 3), 4);
        C.no(x, "pour(0, -1, 1, 0, 1)", x.pour(0, -1, 1, 0, 1), 4);
        C.no(x, "pour(0, 0, 1, -1, 1)", x.pour(0, 0, 1, -1, 1), 4);
        row(x, 0, 1, 2, 3, 4);
        row(x, 1, 2, 3, 1);
    }

    private static void promise6Over() {
        C.about("or the same, as they were:");
        BeatBench on = sheetOf(1, 2, 3, 4, 5);
        C.yes(on, "pour(0, 0, 0, 1, 4): on, over itself", on.pour(0, 0, 0, 1, 4));
        row(on, 0, 1, 1, 2, 3, 4);
        BeatBench back = sheetOf(1, 2, 3, 4, 5);
        C.yes(back, "pour(0, 1, 0, 0, 4): back, over itself", back.pour(0, 1, 0, 0, 4));
        row(back, 0, 2, 3, 4, 5, 5);
        C.yes(back, "pour(0, 0, 0, 0, 5): to its own places", back.pour(0, 0, 0, 0, 5));
        row(back, 0, 2, 3, 4, 5, 5);
        BeatBench x = new BeatBench();
        x.sheet(0, 3, 100);
        x.sheet(1, 3, 100);
        x.write(0, 0, Long.MIN_VALUE);
        x.write(0, 99, Long.MAX_VALUE);
        C.yes(x, "pour(0, 0, 1, 0, 100)", x.pour(0, 0, 1, 0, 100));
        C.due(x, "read(1, 0)", x.read(1, 0), Long.MIN_VALUE, 0);
        C.due(x, "read(1, 99)", x.read(1, 99), Long.MAX_VALUE, 0);
    }

    // ---- the bench

    private static void promise7() {
        C.about("All BEATERS are gone; RING is that (2).");
        BeatBench x = bench(12, FIRING, 11, 11, 5);
        x.roads(1);
        x.go(1);
        C.yes(x, "ring(12): the same one", x.ring(12));
        C.due(x, "count(2)", x.count(2), 0, 0);
        C.due(x, "count(3)", x.count(3), 0, 0);
        C.none(x, "beats(0, 0)", x.beats(0, 0), 2);
        C.due(x, "beater", x.beater(FIRING, 7), 0, 0);
        C.due(x, "its BEATS", x.beats(0, 1), 0, 0);
        C.due(x, "whom it SEES", x.beats(0, 3), 0, 0);
        C.due(x, "the next one", x.beater(FIRING, 7), 1, 0);
        C.due(x, "its BEATS", x.beats(1, 1), 0, 0);
        C.due(x, "whom it SEES", x.beats(1, 3), 0, 0);
        for (int parts : new int[] {1, 4097, 0, -5}) C.no(x, "ring(" + parts + ")", x.ring(parts), 2);
        C.due(x, "count(2)", x.count(2), 2, 0);
        C.due(x, "count(1)", x.count(1), 12, 0);
        C.yes(x, "ring(2)", x.ring(2));
        C.due(x, "count(1)", x.count(1), 2, 0);
        C.yes(x, "ring(4096)", x.ring(4096));
        C.due(x, "count(1)", x.count(1), 4096, 0);
        x.span(3, 3, 1);
        C.due(x, "critical()", x.critical(), 1, 0);
        C.yes(x, "ring(12)", x.ring(12));
        C.out(x, 3);
        C.due(x, "the SPANS stay", x.pace(0), 1, 0);
        C.due(x, "TICKS stay", x.count(0), 1, 0);
    }

    private static void promise8() {
        C.about("A BEATER more, that SEES none: its number (2; 7).");
        BeatBench x = bench(12, PULLED, 0, 6);
        x.roads(1);
        C.due(x, "beater(1, 3)", x.beater(PULLED, 3), 2, 0);
        C.due(x, "SEES none", x.beats(2, 3), 0, 0);
        C.due(x, "nor is it seen", x.count(3), 2, 0);
        C.none(x, "beater(4, 0)", x.beater(4, 0), 2);
        C.none(x, "beater(-1, 0)", x.beater(-1, 0), 2);
        C.none(x, "beater(0, 12)", x.beater(PLAIN, 12), 2);
        C.none(x, "beater(0, -1)", x.beater(PLAIN, -1), 2);
        C.due(x, "count(2)", x.count(2), 3, 0);
        for (int k = 3; k < 24; k++) C.due(x, "beater", x.beater(3, 11), k, 0);
        C.none(x, "one too many", x.beater(3, 11), 7);
        C.none(x, "a wrong one, and too many", x.beater(3, 12), 2);
        C.due(x, "count(2)", x.count(2), 24, 0);
    }

    private static void promise9() {
        C.about("The KIND of a BEATER (2).");
        BeatBench x = bench(12, PLAIN, 11, 11);
        for (int kind = 3; kind >= 0; kind--) {
            C.yes(x, "kind(1, " + kind + ")", x.kind(1, kind));
            C.due(x, "KIND of 1", x.beats(1, 2), kind, 0);
            C.due(x, "KIND of 0", x.beats(0, 2), PLAIN, 0);
        }
        x.kind(1, FIRING);
        x.go(1);
        C.due(x, "BEATS of 1", x.beats(1, 1), 1, 0);
        x.kind(1, PLAIN);
        C.due(x, "BEATS of 1 stay", x.beats(1, 1), 1, 0);
        C.due(x, "PHASE of 1 stays", x.beats(1, 0), 0, 0);
        C.no(x, "kind(1, 4)", x.kind(1, 4), 2);
        C.no(x, "kind(1, -1)", x.kind(1, -1), 2);
        C.no(x, "kind(2, 0)", x.kind(2, 0), 2);
        C.no(x, "kind(-1, 0)", x.kind(-1, 0), 2);
        C.due(x, "KIND of 1", x.beats(1, 2), PLAIN, 0);
    }

    private static void promise10() {
        C.about("The PHASE of a BEATER becomes that (2).");
        BeatBench x = bench(12, FIRING, 4, 4);
        C.yes(x, "turn(0, 0)", x.turn(0, 0));
        C.yes(x, "turn(1, 11)", x.turn(1, 11));
        state(x, "by turn()", 0, 11);
        C.due(x, "no BEAT by turn()", x.beats(0, 1), 0, 0);
        C.due(x, "no TICK by turn()", x.count(0), 0, 0);
        C.no(x, "turn(0, 12)", x.turn(0, 12), 2);
        C.no(x, "turn(0, -1)", x.turn(0, -1), 2);
        C.no(x, "turn(2, 0)", x.turn(2, 0), 2);
        C.no(x, "turn(-1, 0)", x.turn(-1, 0), 2);
        state(x, "as they were", 0, 11);
    }

    private static void promise11() {
        C.about("The first numbers of a SHEET are the PHASES, one for each BEATER (1; 3; 4; 2: a number that is none).");
        BeatBench x = sheetOf(11, 0, 5, 12, -1);
        x.sheet(1, 0, 0);
        C.yes(x, "phases(1): no BEATERS, no numbers", x.phases(1));
        C.yes(x, "phases(0): no BEATERS", x.phases(0));
        for (int k = 0; k < 3; k++) x.beater(PLAIN, 1);
        C.yes(x, "phases(0): wrong ones are behind", x.phases(0));
        state(x, "by phases()", 11, 0, 5);
        x.go(1);
        C.no(x, "phases(4)", x.phases(4), 1);
        C.no(x, "phases(-1)", x.phases(-1), 1);
        C.no(x, "phases(3)", x.phases(3), 3);
        C.no(x, "phases(1): too short", x.phases(1), 4);
        x.sheet(1, 0, 2);
        C.no(x, "phases(1): one too short", x.phases(1), 4);
        x.write(1, 0, -1);
        C.no(x, "phases(1): too short and a wrong one", x.phases(1), 4);
        x.sheet(1, 0, 3);
        x.write(1, 2, -1);
        C.no(x, "phases(1): a -1", x.phases(1), 2);
        x.write(1, 2, 12);
        C.no(x, "phases(1): a 12", x.phases(1), 2);
        state(x, "as they were", 0, 1, 6);
        x.beater(PLAIN, 1);
        C.no(x, "phases(0): the fourth is 12", x.phases(0), 2);
        state(x, "as they were", 0, 1, 6, 1);
        x.write(0, 3, 11);
        C.yes(x, "phases(0)", x.phases(0));
        state(x, "by phases()", 11, 0, 5, 11);
    }

    private static void promise12() {
        C.about("BEATER a SEES b (on true), or not (2).");
        BeatBench x = bench(12, PULLED, 0, 6, 6);
        C.yes(x, "road(0, 1, false): none yet", x.road(0, 1, false));
        C.due(x, "count(3)", x.count(3), 0, 0);
        C.yes(x, "road(0, 1, true)", x.road(0, 1, true));
        C.yes(x, "road(0, 1, true) again", x.road(0, 1, true));
        C.due(x, "0 SEES", x.beats(0, 3), 1, 0);
        C.due(x, "1 SEES", x.beats(1, 3), 0, 0);
        C.yes(x, "road(2, 2, true): itself", x.road(2, 2, true));
        C.due(x, "count(3)", x.count(3), 2, 0);
        C.no(x, "road(0, 3, true)", x.road(0, 3, true), 2);
        C.no(x, "road(3, 0, true)", x.road(3, 0, true), 2);
        C.no(x, "road(-1, 0, false)", x.road(-1, 0, false), 2);
        C.no(x, "road(0, -1, false)", x.road(0, -1, false), 2);
        C.due(x, "count(3)", x.count(3), 2, 0);
        x.go(1);
        state(x, "0 pulled by 1", 4, 7, 7);
        C.yes(x, "road(0, 1, false)", x.road(0, 1, false));
        C.due(x, "count(3)", x.count(3), 1, 0);
        x.go(1);
        state(x, "0 pulled by none", 5, 8, 8);
    }

    /** Whether a SEES b, told by a ROAD taken away. */
    private static void sees(BeatBench x, int a, int b, boolean due) {
        int before = x.count(3);
        x.road(a, b, false);
        C.due(a + " SEES " + b, before - x.count(3), due ? 1 : 0);
        x.road(a, b, due);
    }

    private static void promise13() {
        C.about("All BEATERS SEE all others (what 1), each the one ahead of it and the last one the first one's place (2: "
            + "BEATER k SEES k - 1, BEATER 0 the last one), those on both sides (3), none (0) (2).");
        BeatBench x = bench(12, PLAIN, 0, 0, 0, 0);
        for (int what : new int[] {1, 2, 3, 0}) {
            x.road(0, 0, true);
            x.road(2, 0, true);
            C.yes(x, "roads(" + what + ")", x.roads(what));
            for (int a = 0; a < 4; a++) {
                for (int b = 0; b < 4; b++) {
                    boolean ahead = b == (a + 3) % 4;
                    boolean behind = b == (a + 1) % 4;
                    sees(x, a, b, what == 1 && a != b || what == 2 && ahead || what == 3 && (ahead || behind));
                }
            }
        }
        x.roads(2);
        for (int what : new int[] {-1, 4, LEAST, GREATEST}) C.no(x, "roads(" + what + ")", x.roads(what), 2);
        C.due(x, "count(3)", x.count(3), 4, 0);
    }

    private static void promise13OfFew() {
        C.about("(2: BEATER k SEES k - 1, BEATER 0 the last one), those on both sides (3)");
        int[][] due = {{0, 0, 0, 0}, {0, 0, 1, 1}, {0, 2, 2, 2}, {0, 6, 3, 6}};
        for (int many = 0; many < 4; many++) {
            BeatBench x = bench(12, PLAIN, new int[many]);
            for (int what = 0; what < 4; what++) {
                C.yes(x, "roads(" + what + ") of " + many, x.roads(what));
                C.due(x, "count(3)", x.count(3), due[many][what], 0);
            }
        }
        BeatBench all = bench(12, PLAIN, new int[24]);
        int[] dueOfAll = {0, 24 * 23, 24, 48};
        for (int what = 0; what < 4; what++) {
            all.roads(what);
            C.due(all, "count(3) of 24", all.count(3), dueOfAll[what], 0);
        }
        sees(all, 0, 23, true);
        sees(all, 23, 0, true);
        sees(all, 23, 22, true);
        sees(all, 22, 0, false);
    }

    private static void promise14() {
        C.about("The first numbers of a SHEET, so many, are the PUSH TABLE (1; 3; 2: so many; 4; 2: a number; asked in this "
            + "order).");
        BeatBench x = sheetOf(0, 4, -1);
        x.ring(12);
        x.beater(FIRING, 11);
        x.beater(FIRING, 6);
        x.road(1, 0, true);
        C.yes(x, "push(0, 2): the wrong one is behind", x.push(0, 2));
        x.go(1);
        state(x, "pushed by 4", 0, 11);
        x.turn(0, 11);
        x.turn(1, 4);
        x.go(1);
        state(x, "pushed by 0", 0, 5);
        C.yes(x, "push(0, 1): the first one alone", x.push(0, 1));
        x.turn(0, 11);
        x.turn(1, 6);
        x.write(0, 0, 9);
        x.go(1);
        state(x, "pushed by 0: the table keeps its own numbers", 0, 7);
        C.no(x, "push(4, 0)", x.push(4, 0), 1);
        C.no(x, "push(1, 0)", x.push(1, 0), 3);
        C.no(x, "push(0, 0)", x.push(0, 0), 2);
        C.no(x, "push(0, 17): so many, ahead of 4", x.push(0, 17), 2);
        C.no(x, "push(0, 16)", x.push(0, 16), 4);
        C.no(x, "push(0, 4): 4 ahead of a wrong number", x.push(0, 4), 4);
        C.no(x, "push(0, 3): a -1", x.push(0, 3), 2);
        x.write(0, 2, 4097);
        C.no(x, "push(0, 3): a 4,097", x.push(0, 3), 2);
        x.turn(0, 11);
        x.turn(1, 6);
        x.go(1);
        state(x, "the table as it was", 0, 7);
        x.sheet(2, 0, 0);
        C.no(x, "push(2, 1): of an empty SHEET", x.push(2, 1), 4);
    }

    private static void promise15() {
        C.about("TICKS and BEATS are 0.");
        BeatBench x = bench(2, FIRING, new int[24]);
        C.yes(x, "clear() of a new one", x.clear());
        x.go(20_000);
        C.due(x, "BEATS of 23", x.beats(23, 1), 10_000, 0);
        x.go(1);
        C.yes(x, "clear()", x.clear());
        C.due(x, "TICKS", x.count(0), 0, 0);
        for (int k = 0; k < 24; k++) {
            C.due(x, "BEATS of " + k, x.beats(k, 1), 0, 0);
            C.due(x, "PHASE of " + k, x.beats(k, 0), 1, 0);
        }
    }

    private static void promise16() {
        C.about("So many TICKS (0 to 20,000; 2).");
        BeatBench x = bench(4096, PLAIN, 5);
        C.yes(x, "go(0)", x.go(0));
        state(x, "behind go(0)", 5);
        C.yes(x, "go(20000)", x.go(20_000));
        state(x, "behind go(20000)", 20_005 % 4096);
        C.due(x, "TICKS", x.count(0), 20_000, 0);
        for (int ticks : new int[] {-1, 20_001, LEAST, GREATEST}) C.no(x, "go(" + ticks + ")", x.go(ticks), 2);
        state(x, "as it was", 20_005 % 4096);
        C.due(x, "TICKS", x.count(0), 20_000, 0);
        C.yes(x, "go(19999)", x.go(19_999));
        C.due(x, "TICKS", x.count(0), 39_999, 0);
        BeatBench none = new BeatBench();
        C.yes(none, "go(20000) of none", none.go(20_000));
        C.due(none, "TICKS", none.count(0), 20_000, 0);
    }

    // ---- what is asked of it

    private static void promise17() {
        C.about("TICKS (what 0), or RING (1), BEATERS (2), ROADS (3) (2).");
        BeatBench x = bench(9, PLAIN, 1, 2, 3, 4);
        x.roads(2);
        x.road(0, 0, true);
        x.go(7);
        C.due(x, "count(0)", x.count(0), 7, 0);
        C.due(x, "count(1)", x.count(1), 9, 0);
        C.due(x, "count(2)", x.count(2), 4, 0);
        C.due(x, "count(3)", x.count(3), 5, 0);
        for (int what : new int[] {-1, 4, LEAST, GREATEST}) C.none(x, "count(" + what + ")", x.count(what), 2);
        BeatBench all = bench(12, PLAIN, new int[24]);
        for (int k = 0; k < 24; k++) all.road(k, k, true);
        C.due(all, "count(3)", all.count(3), 24, 0);
    }

    private static void promise18() {
        C.about("Of a BEATER, what 0: its PHASE, 1: its BEATS, 2: its KIND, 3: how many it SEES (2).");
        BeatBench x = bench(6, PLAIN, 1, 2);
        x.beater(FIRING, 3);
        x.road(2, 0, true);
        x.road(2, 1, true);
        x.road(2, 2, true);
        x.go(10);
        C.due(x, "beats(2, 0)", x.beats(2, 0), 1, 0);
        C.due(x, "beats(2, 1)", x.beats(2, 1), 2, 0);
        C.due(x, "beats(2, 2)", x.beats(2, 2), 2, 0);
        C.due(x, "beats(2, 3)", x.beats(2, 3), 3, 0);
        C.none(x, "beats(2, 4)", x.beats(2, 4), 2);
        C.none(x, "beats(2, -1)", x.beats(2, -1), 2);
        C.none(x, "beats(3, 0)", x.beats(3, 0), 2);
        C.none(x, "beats(-1, 0)", x.beats(-1, 0), 2);
        BeatBench all = bench(12, PLAIN, new int[24]);
        for (int k = 0; k < 24; k++) all.road(23, k, true);
        C.due(all, "beats(23, 3)", all.beats(23, 3), 24, 0);
    }

    private static void promise19() {
        C.about("Whether a set of BEATERS (1 for BEATER 0, 2 for 1, 4 for 2 ..; none too) is IN STEP: 1 or 0 (2: other bits).");
        BeatBench x = new BeatBench();
        C.due(x, "step(0) of none", x.step(0), 1, 0);
        C.none(x, "step(1) of none", x.step(1), 2);
        for (int k = 0; k < 24; k++) {
            x.beater(PLAIN, k == 1 ? 3 : 5);
            C.due(x, "step of the last one", x.step(1 << k), 1, 0);
            C.none(x, "step of one more", x.step(1 << k + 1), 2);
        }
        C.due(x, "step(0)", x.step(0), 1, 0);
        C.due(x, "step(3)", x.step(3), 0, 0);
        C.due(x, "step(5)", x.step(5), 1, 0);
        C.due(x, "step(6)", x.step(6), 0, 0);
        C.due(x, "step of all", x.step((1 << 24) - 1), 0, 0);
        C.due(x, "step of all but 1", x.step((1 << 24) - 3), 1, 0);
        for (int set : new int[] {1 << 24, 1 << 24 | 1, 1 << 30, 1 << 31, -1, GREATEST}) {
            C.none(x, "step(" + set + ")", x.step(set), 2);
        }
    }

    private static void promise20() {
        C.about("ARC of such a set (2: other bits, none).");
        BeatBench x = bench(12, PLAIN, 0, 3, 11);
        C.due(x, "arc(1)", x.arc(1), 0, 0);
        C.due(x, "arc(3)", x.arc(3), 3, 0);
        C.due(x, "arc(6)", x.arc(6), 4, 0);
        C.due(x, "arc(7)", x.arc(7), 4, 0);
        for (int set : new int[] {0, 8, 9, -1, LEAST, GREATEST}) C.none(x, "arc(" + set + ")", x.arc(set), 2);
        BeatBench none = new BeatBench();
        C.none(none, "arc(0) of none", none.arc(0), 2);
        BeatBench all = bench(24, PLAIN);
        for (int k = 0; k < 24; k++) all.beater(PLAIN, (7 * k) % 24);
        C.due(all, "arc of all 24 parts", all.arc((1 << 24) - 1), 23, 0);
        C.none(all, "arc(1 << 24)", all.arc(1 << 24), 2);
    }

    private static void promise21() {
        C.about("What 0: LEAD, 1: ROUND (2; 8: no BEATERS; 10). The STATE stays.");
        BeatBench x = bench(16, 3, 8);
        x.beater(PULLED, 0);
        x.road(1, 0, true);
        x.beater(FIRING, 15);
        C.due(x, "round(0)", x.round(0), 3, 0);
        C.due(x, "round(1)", x.round(1), 16, 0);
        C.none(x, "round(2)", x.round(2), 2);
        C.none(x, "round(-1)", x.round(-1), 2);
        state(x, "stays", 8, 0, 15);
        C.due(x, "TICKS stay", x.count(0), 0, 0);
        C.due(x, "BEATS stay", x.beats(2, 1), 0, 0);
        x.ring(16);
        C.none(x, "round(0) of none", x.round(0), 8);
        C.none(x, "round(1) of none", x.round(1), 8);
        C.none(x, "round(2) of none", x.round(2), 2);
        BeatBench spent = longOnes();
        C.none(spent, "round(0)", spent.round(0), 10);
        C.none(spent, "round(1)", spent.round(1), 10);
        state(spent, "stays", 2499, 299, 0);
        C.due(spent, "BEATS stay", spent.beats(0, 1), 0, 0);
    }

    /** A FIRING pair with a round of 799 (pushes of 1,701), and a PLAIN one's of 2,500: no end within 20,000. */
    private static BeatBench longOnes() {
        BeatBench x = sheetOf(1701);
        x.push(0, 1);
        x.ring(2500);
        x.beater(FIRING, 2499);
        x.beater(FIRING, 299);
        x.beater(PLAIN, 0);
        x.road(0, 1, true);
        x.road(1, 0, true);
        return x;
    }

    private static void promise22() {
        C.about("How many TICKS from now on a set is IN STEP first, 0 if it is now (2; 8: never; 10: not within 20,000, and "
            + "it can't be told). The STATE stays.");
        BeatBench x = bench(16, 3, 8, 8);
        x.beater(PULLED, 0);
        x.beater(PLAIN, 7);
        x.road(2, 0, true);
        C.due(x, "meet(3): now", x.meet(3), 0, 0);
        C.due(x, "meet(0): none", x.meet(0), 0, 0);
        C.due(x, "meet(4): one", x.meet(4), 0, 0);
        C.due(x, "meet(12): from 8, 4, 2 and 1 behind the HELD one, as the PLAIN one is", x.meet(12), 3, 0);
        C.none(x, "meet(5): 1 behind for ever", x.meet(5), 8);
        C.none(x, "meet(7)", x.meet(7), 8);
        C.none(x, "meet(16)", x.meet(16), 2);
        C.none(x, "meet(-1)", x.meet(-1), 2);
        state(x, "stays", 8, 8, 0, 7);
        C.due(x, "TICKS stay", x.count(0), 0, 0);
        BeatBench none = new BeatBench();
        C.due(none, "meet(0) of none", none.meet(0), 0, 0);
        C.none(none, "meet(1) of none", none.meet(1), 2);
        BeatBench spent = longOnes();
        C.none(spent, "meet(3): the pair never is, but it can't be told", spent.meet(3), 10);
        state(spent, "stays", 2499, 299, 0);
        C.due(spent, "BEATS stay", spent.beats(0, 1), 0, 0);
        // IN STEP on the way alone: 8, 4, 2 and 1 behind the HELD one, and the other one 4 behind it all the time.
        BeatBench once = bench(16, 3, 8, 4);
        once.beater(PULLED, 0);
        once.road(2, 0, true);
        C.due(once, "meet(6)", once.meet(6), 1, 0);
        once.go(1);
        C.due(once, "meet(6)", once.meet(6), 0, 0);
        once.go(1);
        C.none(once, "meet(6)", once.meet(6), 8);
    }

    /** A FIRING pair of a ring of 4 pushed by 2 that SEE each other: all come IN STEP but (3, 0) and (0, 3). */
    private static BeatBench firingPair() {
        BeatBench x = sheetOf(2);
        x.push(0, 1);
        x.ring(4);
        x.beater(FIRING, 0);
        x.beater(FIRING, 0);
        x.roads(1);
        return x;
    }

    private static void end(BeatBench x, int k, int least, int states, int basin) {
        C.due(x, "end(" + k + ", 0)", x.end(k, 0), least, 0);
        C.due(x, "end(" + k + ", 1)", x.end(k, 1), states, 0);
        C.due(x, "end(" + k + ", 2)", x.end(k, 2), basin, 0);
    }

    private static void promise23() {
        C.about("How many ENDS a SMALL bench has (5). They are kept till the next ends().");
        BeatBench x = firingPair();
        x.turn(0, 3);
        C.due(x, "ends()", x.ends(), 2, 0);
        state(x, "stays", 3, 0);
        C.due(x, "TICKS stay", x.count(0), 0, 0);
        C.due(x, "BEATS stay", x.beats(0, 1) + x.beats(1, 1), 0, 0);
        x.roads(0);
        x.go(3);
        x.sure(3);
        x.round(0);
        x.meet(3);
        x.clear();
        x.table(2);
        end(x, 0, 0, 4, 14);
        end(x, 1, 3, 2, 2);
        for (int k = 2; k < 8; k++) x.beater(PLAIN, 0);
        C.none(x, "ends() of 4 to the power of 8", x.ends(), 5);
        end(x, 0, 0, 4, 14);
        end(x, 1, 3, 2, 2);
        x.ring(4);
        C.none(x, "ends() of none", x.ends(), 5);
        end(x, 1, 3, 2, 2);
        x.beater(PLAIN, 0);
        end(x, 1, 3, 2, 2);
        C.due(x, "the next ends()", x.ends(), 1, 0);
        end(x, 0, 0, 4, 4);
        C.none(x, "end(1, 0)", x.end(1, 0), 8);
    }

    private static void promise24() {
        C.about("Of END k as kept, what 0: its least STATE, 1: how many STATES, 2: BASIN (2: what; 8).");
        BeatBench x = firingPair();
        C.none(x, "end(0, 0) ahead of ends()", x.end(0, 0), 8);
        C.none(x, "end(0, 3) ahead of ends()", x.end(0, 3), 2);
        x.ends();
        end(x, 0, 0, 4, 14);
        end(x, 1, 3, 2, 2);
        for (int k : new int[] {-1, 2, LEAST, GREATEST}) {
            for (int what = 0; what < 3; what++) C.none(x, "end(" + k + ", " + what + ")", x.end(k, what), 8);
            C.none(x, "end(" + k + ", 3)", x.end(k, 3), 2);
            C.none(x, "end(" + k + ", -1)", x.end(k, -1), 2);
        }
        for (int what : new int[] {-1, 3, LEAST, GREATEST}) C.none(x, "end(0, " + what + ")", x.end(0, what), 2);
    }

    /** With a PLAIN one beside the pair: where (3, 0) and (0, 3) change places it is IN STEP with one at times. */
    private static void promise25() {
        C.about("From how many STATES a set is IN STEP, in the end, at each TICK (5; 2: other bits: 2 ahead of 5).");
        BeatBench x = firingPair();
        x.beater(PLAIN, 0);
        C.due(x, "sure(0): none", x.sure(0), 64, 0);
        C.due(x, "sure(4): one", x.sure(4), 64, 0);
        C.due(x, "sure(3): 14 by 4", x.sure(3), 56, 0);
        C.due(x, "sure(5): 14, for each of these one PHASE", x.sure(5), 14, 0);
        C.due(x, "sure(6)", x.sure(6), 14, 0);
        C.due(x, "sure(7)", x.sure(7), 14, 0);
        C.none(x, "sure(8)", x.sure(8), 2);
        C.none(x, "sure(-1)", x.sure(-1), 2);
        state(x, "stays", 0, 0, 0);
        C.due(x, "TICKS stay", x.count(0), 0, 0);
        for (int k = 3; k < 8; k++) x.beater(PLAIN, 0);
        C.none(x, "sure(0) of 4 to the power of 8", x.sure(0), 5);
        C.none(x, "sure(255)", x.sure(255), 5);
        C.none(x, "sure(256): 2 ahead of 5", x.sure(256), 2);
        x.ring(4);
        C.none(x, "sure(0) of none", x.sure(0), 5);
        C.none(x, "sure(1) of none: 2 ahead of 5", x.sure(1), 2);
    }

    private static void promise26() {
        C.about("LEAD: how many (8: no BEATERS). They are kept, till the next lead().");
        BeatBench x = new BeatBench();
        C.none(x, "lead() of none", x.lead(), 8);
        for (int k = 0; k < 4; k++) x.beater(PLAIN, 0);
        x.road(0, 3, true);
        C.due(x, "lead()", x.lead(), 3, 0);
        x.roads(1);
        x.go(1);
        x.ends();
        C.due(x, "leader(0)", x.leader(0), 1, 0);
        C.due(x, "leader(2)", x.leader(2), 3, 0);
        x.ring(12);
        C.none(x, "lead() of none", x.lead(), 8);
        C.due(x, "leader(2)", x.leader(2), 3, 0);
        x.beater(PLAIN, 0);
        C.due(x, "leader(2)", x.leader(2), 3, 0);
        C.due(x, "the next lead()", x.lead(), 1, 0);
        C.due(x, "leader(0)", x.leader(0), 0, 0);
        C.none(x, "leader(1)", x.leader(1), 8);
    }

    private static void promise27() {
        C.about("The k-th BEATER, by number, of LEAD as kept (8).");
        BeatBench x = bench(12, PLAIN, new int[24]);
        C.none(x, "leader(0) ahead of lead()", x.leader(0), 8);
        for (int k = 0; k < 24; k += 2) x.road(k, k + 1, true);
        C.due(x, "lead()", x.lead(), 12, 0);
        for (int k = 0; k < 12; k++) C.due(x, "leader(" + k + ")", x.leader(k), 2 * k + 1, 0);
        for (int k : new int[] {12, 24, -1, LEAST, GREATEST}) C.none(x, "leader(" + k + ")", x.leader(k), 8);
    }

    // ---- greatest sums

    /** A table of a SIZE, with SPANS told as i, j, number. */
    private static BeatBench table(int size, int... spans) {
        BeatBench x = new BeatBench();
        C.yes(x, "table(" + size + ")", x.table(size));
        for (int k = 0; k + 2 < spans.length; k += 3) {
            C.yes(x, "span", x.span(spans[k], spans[k + 1], spans[k + 2]));
        }
        return x;
    }

    private static void promise28() {
        C.about("The table has a SIZE (2), no SPANS.");
        BeatBench x = table(10, 9, 9, 1, 0, 0, 1, 4, 3, 2);
        C.no(x, "table(11)", x.table(11), 2);
        C.no(x, "table(-1)", x.table(-1), 2);
        C.due(x, "sums(1, 9, 9)", x.sums(1, 9, 9), 1, 0);
        C.due(x, "sums(1, 0, 0)", x.sums(1, 0, 0), 1, 0);
        C.yes(x, "table(10): the same SIZE", x.table(10));
        for (int k = 0; k < 100; k++) C.no(x, "cut", x.cut(k / 10, k % 10), 8);
        C.yes(x, "table(1)", x.table(1));
        C.yes(x, "span(0, 0, 3)", x.span(0, 0, 3));
        C.no(x, "span(1, 0, 3)", x.span(1, 0, 3), 2);
        C.yes(x, "table(2)", x.table(2));
        C.no(x, "cut(0, 0)", x.cut(0, 0), 8);
        C.yes(x, "table(0)", x.table(0));
        C.no(x, "span(0, 0, 3)", x.span(0, 0, 3), 2);
        C.none(x, "pace(0)", x.pace(0), 8);
    }

    private static void promise29() {
        C.about("SPAN (i, j) (2).");
        BeatBench x = table(3);
        C.yes(x, "span(2, 0, 1048576)", x.span(2, 0, 1_048_576));
        C.due(x, "sums(1, 2, 0)", x.sums(1, 2, 0), 1_048_576, 0);
        C.yes(x, "span(2, 0, -1048576)", x.span(2, 0, -1_048_576));
        C.due(x, "sums(1, 2, 0): in its place", x.sums(1, 2, 0), -1_048_576, 0);
        C.no(x, "span(2, 0, 1048577)", x.span(2, 0, 1_048_577), 2);
        C.no(x, "span(2, 0, -1048577)", x.span(2, 0, -1_048_577), 2);
        C.no(x, "span(3, 0, 0)", x.span(3, 0, 0), 2);
        C.no(x, "span(0, 3, 0)", x.span(0, 3, 0), 2);
        C.no(x, "span(-1, 0, 0)", x.span(-1, 0, 0), 2);
        C.no(x, "span(0, -1, 0)", x.span(0, -1, 0), 2);
        C.due(x, "sums(1, 2, 0)", x.sums(1, 2, 0), -1_048_576, 0);
        C.none(x, "sums(1, 0, 2)", x.sums(1, 0, 2), 8);
    }

    private static void promise30() {
        C.about("SPAN (i, j) is none (2; 8: it is none).");
        BeatBench x = table(3, 2, 0, 0, 0, 2, 1);
        C.yes(x, "cut(2, 0): a 0", x.cut(2, 0));
        C.none(x, "sums(1, 2, 0)", x.sums(1, 2, 0), 8);
        C.due(x, "sums(1, 0, 2) stays", x.sums(1, 0, 2), 1, 0);
        C.no(x, "cut(2, 0) again", x.cut(2, 0), 8);
        C.no(x, "cut(1, 1)", x.cut(1, 1), 8);
        C.no(x, "cut(3, 0)", x.cut(3, 0), 2);
        C.no(x, "cut(0, 3)", x.cut(0, 3), 2);
        C.no(x, "cut(-1, 0)", x.cut(-1, 0), 2);
        C.no(x, "cut(0, -1)", x.cut(0, -1), 2);
        C.yes(x, "span(2, 0, 4)", x.span(2, 0, 4));
        C.due(x, "sums(2, 2, 2)", x.sums(2, 2, 2), 5, 0);
    }

    private static void promise31() {
        C.about("PACE as a fraction without a common divisor, what 0: upper, 1: lower, above 0; STATUS tells NONE from -1 "
            + "(2; 8: there is no round).");
        BeatBench x = table(4, 1, 0, -1, 2, 1, -2, 3, 2, -2, 0, 3, -1);
        C.due(x, "pace(0): -6 by 4", x.pace(0), -3, 0);
        C.due(x, "pace(1)", x.pace(1), 2, 0);
        x.span(2, 1, 0);
        C.due(x, "pace(0): -4 by 4, no NONE", x.pace(0), -1, 0);
        C.due(x, "pace(1)", x.pace(1), 1, 0);
        x.span(2, 1, 4);
        C.due(x, "pace(0): 0 by 4", x.pace(0), 0, 0);
        C.due(x, "pace(1)", x.pace(1), 1, 0);
        x.span(2, 1, 6);
        C.due(x, "pace(0): 2 by 4", x.pace(0), 1, 0);
        C.due(x, "pace(1)", x.pace(1), 2, 0);
        x.span(2, 1, 7);
        C.due(x, "pace(0): 3 by 4", x.pace(0), 3, 0);
        C.due(x, "pace(1)", x.pace(1), 4, 0);
        C.none(x, "pace(2)", x.pace(2), 2);
        C.none(x, "pace(-1)", x.pace(-1), 2);
        x.cut(0, 3);
        C.none(x, "pace(0): no round", x.pace(0), 8);
        C.none(x, "pace(1): no round", x.pace(1), 8);
        C.none(x, "pace(2)", x.pace(2), 2);
    }

    private static void promise32() {
        C.about("CRITICAL: how many ROADS (8). OUT has its places, each as a byte of that number.");
        BeatBench x = table(10, 9, 0, 1, 5, 9, 1, 0, 5, 1);
        C.outIsNone(x, 0);
        C.due(x, "critical()", x.critical(), 3, 0);
        C.out(x, 0, 9, 5);
        x.span(7, 7, 1);
        C.out(x, 0, 9, 5);
        C.due(x, "critical()", x.critical(), 1, 0);
        C.out(x, 7);
        x.table(10);
        C.none(x, "critical(): no round", x.critical(), 8);
        C.out(x, 7);
        for (int k = 0; k < 10; k++) x.span((k + 1) % 10, k, -1);
        C.due(x, "critical()", x.critical(), 10, 0);
        C.out(x, 0, 1, 2, 3, 4, 5, 6, 7, 8, 9);
    }

    private static void promise33() {
        C.about("SUMS, n from 0 to 1,000,000,000,000; STATUS tells NONE from -1 (2; 8: there is no such row).");
        long far = 1_000_000_000_000L;
        BeatBench x = table(2, 1, 0, -1, 0, 0, 1);
        C.due(x, "sums(0, 0, 0)", x.sums(0, 0, 0), 0, 0);
        C.due(x, "sums(1, 1, 0): a -1", x.sums(1, 1, 0), -1, 0);
        C.none(x, "sums(0, 1, 0): no such row", x.sums(0, 1, 0), 8);
        C.none(x, "sums(1, 0, 1)", x.sums(1, 0, 1), 8);
        C.due(x, "sums(10^12, 0, 0)", x.sums(far, 0, 0), far, 0);
        C.due(x, "sums(10^12, 1, 0)", x.sums(far, 1, 0), far - 2, 0);
        C.none(x, "sums(10^12, 1, 1)", x.sums(far, 1, 1), 8);
        C.none(x, "sums(10^12 + 1, 0, 0)", x.sums(far + 1, 0, 0), 2);
        C.none(x, "sums(-1, 0, 0)", x.sums(-1, 0, 0), 2);
        C.none(x, "sums(0, 2, 0)", x.sums(0, 2, 0), 2);
        C.none(x, "sums(0, 0, 2)", x.sums(0, 0, 2), 2);
        C.none(x, "sums(0, -1, 0)", x.sums(0, -1, 0), 2);
        C.none(x, "sums(0, 0, -1)", x.sums(0, 0, -1), 2);
        C.none(x, "sums(Long.MIN_VALUE, 0, 0)", x.sums(Long.MIN_VALUE, 0, 0), 2);
    }

    private static void promise34() {
        C.about("LONGEST; STATUS tells NONE from -1 (2; 8: no row leads there; 9).");
        BeatBench x = table(3, 1, 0, -1);
        C.due(x, "longest(1, 0): a -1", x.longest(1, 0), -1, 0);
        C.due(x, "longest(0, 0): no ROAD", x.longest(0, 0), 0, 0);
        C.none(x, "longest(0, 1): no row", x.longest(0, 1), 8);
        C.none(x, "longest(2, 0): no row", x.longest(2, 0), 8);
        C.none(x, "longest(3, 0)", x.longest(3, 0), 2);
        C.none(x, "longest(0, 3)", x.longest(0, 3), 2);
        C.none(x, "longest(-1, 0)", x.longest(-1, 0), 2);
        C.none(x, "longest(0, -1)", x.longest(0, -1), 2);
        x.span(0, 1, 1);
        C.due(x, "longest(0, 1): a round of 0", x.longest(0, 1), 1, 0);
        x.span(0, 1, 2);
        C.none(x, "longest(0, 1): a round of 1", x.longest(0, 1), 9);
        C.none(x, "longest(2, 0): no row, 8 ahead of 9", x.longest(2, 0), 8);
        C.none(x, "longest(3, 0): 2 ahead of 9", x.longest(3, 0), 2);
    }

    private static void promise35() {
        C.about("AGAIN, what 0: LEAD, 1: C (2; 8: there is no round; 10).");
        BeatBench x = table(3, 1, 0, 2, 0, 1, 4, 2, 1, -5);
        C.due(x, "again(0): place 2 is come to from 1 ROAD on, and from 0 ROADS", x.again(0), 1, 0);
        C.due(x, "again(1)", x.again(1), 2, 0);
        C.none(x, "again(2)", x.again(2), 2);
        C.none(x, "again(-1)", x.again(-1), 2);
        x.span(2, 2, 1);
        C.none(x, "again(0): 1 and 3, never", x.again(0), 10);
        C.none(x, "again(1): 1 and 3, never", x.again(1), 10);
        C.none(x, "again(2)", x.again(2), 2);
        x.table(3);
        C.none(x, "again(0): no round", x.again(0), 8);
        C.none(x, "again(1): no round", x.again(1), 8);
        C.none(x, "again(2)", x.again(2), 2);
    }

    private static void promise36() {
        C.about("Byte k of OUT. NoSuchElementException: there is none such.");
        BeatBench x = table(10, 3, 2, 1, 2, 3, 1);
        for (int k : new int[] {LEAST, -1, 0, 1, GREATEST}) C.outIsNone(x, k);
        x.critical();
        C.due("out(0)", x.out(0), 2);
        C.due("out(1)", x.out(1), 3);
        C.due("out(0) again", x.out(0), 2);
        for (int k : new int[] {LEAST, -1, 2, 10, GREATEST}) C.outIsNone(x, k);
        C.due("status() of critical()", x.status(), 0);
    }

    private static void promised512Calls() {
        C.about("An object is used for at most 512 calls after it has been made;");
        BeatBench x = new BeatBench();
        x.ring(2);
        x.beater(FIRING, 0);
        for (int call = 3; call <= 510; call++) {
            if (!x.go(20_000)) C.due("go(20000), call " + call, false, true);
        }
        C.due("BEATS, call 511", x.beats(0, 1), 508 * 10_000);
        C.due("TICKS, call 512", x.count(0), 508 * 20_000);
    }
}
