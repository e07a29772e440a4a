import java.util.Arrays;

/** Terms, part 1, sentence by sentence: SHEETS, THE RING, BEATERS, ROADS, the PUSH TABLE and a TICK. */
public final class TermsBenchTest {
    private static final int PLAIN = 0;
    private static final int PULLED = 1;
    private static final int FIRING = 2;
    private static final int HELD = 3;
    private static final Check C = new Check("TermsBenchTest");

    public static void main(String[] args) {
        sheetsAreMissing();
        numbersAreCut();
        ringHasParts();
        beatersAreNumbered();
        phasesOfARing();
        kinds();
        roadsOfEachTwo();
        pushTableNumbers();
        pushTableAtFirst();
        allAtOnce();
        plainAndHeld();
        howFarAhead();
        towardsNought();
        restsByRing();
        comingToRing();
        phaseOfABeat();
        whoIsPushed();
        whichNumberPushes();
        behindTheLine();
        inTheLine();
        inStep();
        counted();
        arcs();
        C.end();
    }

    private static BeatBench bench(int ring, int kind, int... phases) {
        BeatBench x = new BeatBench();
        x.ring(ring);
        for (int phase : phases) x.beater(kind, phase);
        return x;
    }

    private static void setPushes(BeatBench x, int... pushes) {
        x.sheet(0, 2, pushes.length);
        for (int k = 0; k < pushes.length; k++) x.write(0, k, pushes[k]);
        C.yes(x, "push", x.push(0, pushes.length));
    }

    private static void state(BeatBench x, String when, int... phases) {
        for (int k = 0; k < phases.length; k++) {
            C.due(x, "PHASE of " + k + " " + when, x.beats(k, 0), phases[k], 0);
        }
    }

    private static void beats(BeatBench x, String when, int... beats) {
        for (int k = 0; k < beats.length; k++) {
            C.due(x, "BEATS of " + k + " " + when, x.beats(k, 1), beats[k], 0);
        }
    }

    // ---- SHEETS

    private static void sheetsAreMissing() {
        C.about("SHEETS, 0 to 3, are MISSING at first, or rows of numbers");
        BeatBench x = new BeatBench();
        for (int s = 0; s < 4; s++) ofASheet(x, s, 3);
        for (int s : new int[] {-1, 4, Integer.MIN_VALUE, Integer.MAX_VALUE}) {
            ofASheet(x, s, 1);
            C.no(x, "sheet(" + s + ", 0, 1)", x.sheet(s, 0, 1), 1);
        }
        for (int s = 0; s < 4; s++) {
            C.yes(x, "sheet(" + s + ", 0, 1)", x.sheet(s, 0, 1));
            C.due(x, "read(" + s + ", 0)", x.read(s, 0), 0, 0);
        }
    }

    private static void ofASheet(BeatBench x, int s, int status) {
        C.none(x, "read(" + s + ", 0)", x.read(s, 0), status);
        C.no(x, "write(" + s + ", 0, 1)", x.write(s, 0, 1), status);
        C.no(x, "pour(" + s + ", 0, " + s + ", 0, 0)", x.pour(s, 0, s, 0, 0), status);
        C.no(x, "phases(" + s + ")", x.phases(s), status);
        C.no(x, "push(" + s + ", 1)", x.push(s, 1), status);
    }

    private static void numbersAreCut() {
        C.about("of 8 bits (sort 0), 16 (1), 32 (2) or 64 (3), with sign; what is written is cut to these.");
        BeatBench x = new BeatBench();
        for (int sort = 0; sort < 4; sort++) {
            int bits = 8 << sort;
            long least = -1L << bits - 1;
            C.yes(x, "sheet(" + sort + ", " + sort + ", 1)", x.sheet(sort, sort, 1));
            cut(x, sort, least, least);
            cut(x, sort, -1, -1);
            cut(x, sort, 0, 0);
            cut(x, sort, ~least, ~least);
            // One beyond either edge comes round to the other one.
            cut(x, sort, least - 1, ~least);
            cut(x, sort, ~least + 1, least);
            cut(x, sort, Long.MAX_VALUE, sort == 3 ? Long.MAX_VALUE : -1);
            cut(x, sort, Long.MIN_VALUE, sort == 3 ? Long.MIN_VALUE : 0);
        }
        C.no(x, "sheet(0, -1, 1)", x.sheet(0, -1, 1), 1);
        C.no(x, "sheet(0, 4, 1)", x.sheet(0, 4, 1), 1);
    }

    private static void cut(BeatBench x, int sort, long written, long due) {
        C.yes(x, "write " + written, x.write(sort, 0, written));
        C.due(x, written + " of sort " + sort, x.read(sort, 0), due, 0);
    }

    // ---- THE RING and its BEATERS

    private static void ringHasParts() {
        C.about("THE RING has RING parts (2 to 4,096; 12 at first).");
        BeatBench x = new BeatBench();
        C.due(x, "count(1)", x.count(1), 12, 0);
        lastPartLeadsToFirst(x, 12);
        for (int parts : new int[] {2, 4096}) {
            C.yes(x, "ring(" + parts + ")", x.ring(parts));
            C.due(x, "count(1)", x.count(1), parts, 0);
            lastPartLeadsToFirst(x, parts);
        }
        for (int parts : new int[] {Integer.MIN_VALUE, -1, 0, 1, 4097, Integer.MAX_VALUE}) {
            C.no(x, "ring(" + parts + ")", x.ring(parts), 2);
            C.due(x, "count(1)", x.count(1), 4096, 0);
            C.due(x, "count(2)", x.count(2), 1, 0);
        }
    }

    private static void lastPartLeadsToFirst(BeatBench x, int parts) {
        C.none(x, "beater(0, " + parts + ")", x.beater(PLAIN, parts), 2);
        C.due(x, "beater(0, " + (parts - 1) + ")", x.beater(PLAIN, parts - 1), 0, 0);
        C.yes(x, "go(1)", x.go(1));
        state(x, "behind the last part", 0);
        C.yes(x, "go(" + (parts - 1) + ")", x.go(parts - 1));
        state(x, "at the last part", parts - 1);
    }

    private static void beatersAreNumbered() {
        C.about("BEATERS, at most 24, are numbered as they come;");
        BeatBench x = new BeatBench();
        for (int k = 0; k < 24; k++) C.due(x, "beater", x.beater(k % 4, 0), k, 0);
        C.none(x, "a 25th", x.beater(PLAIN, 0), 7);
        C.due(x, "count(2)", x.count(2), 24, 0);
        C.none(x, "beats(24, 0)", x.beats(24, 0), 2);
        for (int k = 0; k < 24; k++) C.due(x, "KIND of " + k, x.beats(k, 2), k % 4, 0);
        x.ring(12);
        C.due(x, "the first one of a new ring", x.beater(HELD, 0), 0, 0);
        C.none(x, "beats(1, 0): gone", x.beats(1, 0), 2);
    }

    private static void phasesOfARing() {
        C.about("each has a PHASE, 0 to RING - 1,");
        for (int ring : new int[] {2, 3, 12, 4096}) {
            BeatBench x = bench(ring, PLAIN, 0, ring - 1);
            state(x, "of " + ring, 0, ring - 1);
            C.yes(x, "turn to the last", x.turn(0, ring - 1));
            C.yes(x, "turn to 0", x.turn(1, 0));
            state(x, "of " + ring, ring - 1, 0);
            for (int wrong : new int[] {-1, ring, Integer.MIN_VALUE, Integer.MAX_VALUE}) {
                C.none(x, "beater(0, " + wrong + ")", x.beater(PLAIN, wrong), 2);
                C.no(x, "turn(0, " + wrong + ")", x.turn(0, wrong), 2);
            }
            x.sheet(0, 3, 2);
            for (long wrong : new long[] {-1, ring, 1L << 32, Long.MIN_VALUE, Long.MAX_VALUE}) {
                x.write(0, 1, wrong);
                C.no(x, "phases(0) with " + wrong, x.phases(0), 2);
            }
            state(x, "unchanged", ring - 1, 0);
            x.write(0, 1, ring - 1);
            C.yes(x, "phases(0)", x.phases(0));
            state(x, "by phases()", 0, ring - 1);
        }
    }

    /** All SEE a FIRING one that BEATS and pushes by 2; who does what tells the KIND. */
    private static void kinds() {
        C.about("and a KIND: 0 PLAIN, 1 PULLED, 2 FIRING, 3 HELD.");
        BeatBench x = bench(12, FIRING, 11);
        setPushes(x, 2);
        for (int kind = 0; kind < 4; kind++) {
            int k = x.beater(kind, 9);
            C.due(x, "KIND of " + k, x.beats(k, 2), kind, 0);
            x.road(k, 0, true);
        }
        x.go(1);
        state(x, "by kind", 0, 10, 11, 0, 10);
        beats(x, "by kind", 1, 0, 0, 1, 0);
        for (int kind : new int[] {-1, 4, Integer.MIN_VALUE, Integer.MAX_VALUE}) {
            C.none(x, "beater(" + kind + ", 0)", x.beater(kind, 0), 2);
            C.no(x, "kind(0, " + kind + ")", x.kind(0, kind), 2);
        }
        C.due(x, "KIND of 0", x.beats(0, 2), FIRING, 0);
    }

    private static void roadsOfEachTwo() {
        C.about("ROADS: of each two, like ones too, whether one SEES the other.");
        BeatBench x = bench(12, PULLED, 0, 4, 0);
        C.due(x, "count(3)", x.count(3), 0, 0);
        x.road(1, 1, true);
        C.due(x, "1 SEES itself", x.beats(1, 3), 1, 0);
        x.road(0, 1, true);
        C.due(x, "0 SEES 1", x.beats(0, 3), 1, 0);
        C.due(x, "1 SEES itself, not 0", x.beats(1, 3), 1, 0);
        C.due(x, "2 SEES none", x.beats(2, 3), 0, 0);
        C.due(x, "count(3)", x.count(3), 2, 0);
        x.go(1);
        state(x, "0 is pulled, and no other", 3, 5, 1);
        for (int a = 0; a < 3; a++) for (int b = 0; b < 3; b++) x.road(a, b, true);
        C.due(x, "count(3)", x.count(3), 9, 0);
        x.road(1, 1, false);
        C.due(x, "count(3)", x.count(3), 8, 0);
        C.due(x, "1 SEES two", x.beats(1, 3), 2, 0);
    }

    // ---- the PUSH TABLE

    private static void pushTableNumbers() {
        C.about("The PUSH TABLE has 1 to 16 numbers, 0 to 4,096");
        BeatBench x = bench(4096, FIRING, 4095, 0);
        x.road(1, 0, true);
        x.sheet(0, 2, 17);
        for (int many : new int[] {Integer.MIN_VALUE, -1, 0, 17, Integer.MAX_VALUE}) {
            C.no(x, "push(0, " + many + ")", x.push(0, many), 2);
        }
        C.yes(x, "push(0, 1): a 0", x.push(0, 1));
        C.yes(x, "push(0, 16)", x.push(0, 16));
        x.go(1);
        state(x, "pushed by 0", 0, 1);
        x.write(0, 15, 4096);
        C.yes(x, "push(0, 16): the last 4,096", x.push(0, 16));
        x.turn(0, 4095);
        x.turn(1, 3839);
        x.go(1);
        state(x, "pushed by 4,096", 0, 0);
        beats(x, "pushed by 4,096", 2, 1);
        for (int wrong : new int[] {-1, 4097, Integer.MIN_VALUE, Integer.MAX_VALUE}) {
            for (int place : new int[] {0, 15}) {
                x.sheet(0, 2, 17);
                x.write(0, place, wrong);
                C.no(x, "push(0, 16) with " + wrong, x.push(0, 16), 2);
            }
            x.write(0, 0, 0);
            C.yes(x, "push(0, 15): the wrong one is behind it", x.push(0, 15));
        }
    }

    private static void pushTableAtFirst() {
        C.about("(at first one: 1).");
        for (int phase = 0; phase < 11; phase++) {
            BeatBench x = bench(12, FIRING, 11, phase);
            x.road(1, 0, true);
            x.go(1);
            state(x, "1 more, and pushed by 1", 0, phase == 10 ? 0 : phase + 2);
            beats(x, "from " + phase, 1, phase == 10 ? 1 : 0);
        }
    }

    // ---- a TICK

    private static void allAtOnce() {
        C.about("A TICK: of all BEATERS at once, by the PHASES ahead of it.");
        BeatBench round = bench(12, PULLED, 0, 4, 8);
        round.road(0, 1, true);
        round.road(1, 2, true);
        round.road(2, 0, true);
        round.go(1);
        state(round, "each pulled by 4 / 2", 3, 7, 11);
        BeatBench back = bench(12, PULLED, 8, 4, 0);
        back.road(2, 1, true);
        back.road(1, 0, true);
        back.road(0, 2, true);
        back.go(1);
        state(back, "each pulled by 4 / 2", 11, 7, 3);
        BeatBench fired = bench(12, FIRING, 11);
        fired.beater(PULLED, 5);
        fired.road(1, 0, true);
        fired.go(1);
        state(fired, "pulled by the PHASE ahead of the BEAT, 6 on", 0, 9);
    }

    private static void plainAndHeld() {
        C.about("PLAIN, HELD: the PHASE is 1 more.");
        for (int kind : new int[] {PLAIN, HELD}) {
            BeatBench x = bench(12, kind, 0, 11, 5);
            x.beater(FIRING, 11);
            for (int k = 0; k < 3; k++) for (int b = 0; b < 4; b++) x.road(k, b, true);
            x.go(1);
            state(x, "1 more", 1, 0, 6, 0);
            beats(x, "none but the FIRING one", 0, 0, 0, 1);
        }
    }

    /** Where a PULLED one comes in one TICK, with a ROAD to itself and without one. */
    private static void pull(int ring, int from, int due, int... others) {
        for (int own = 0; own < 2; own++) {
            BeatBench x = bench(ring, PULLED, from);
            x.road(0, 0, own == 1);
            for (int other : others) x.road(0, x.beater(HELD, other), true);
            x.go(1);
            C.due(x, "PULLED from " + from + " of " + ring, x.beats(0, 0), due, 0);
        }
    }

    private static void howFarAhead() {
        C.about("PULLED: 1 more, and the PULL: of each BEATER that it SEES (but itself) how far it is ahead, "
            + "a number above - RING / 2 and not above RING / 2 (halves as they are);");
        pull(12, 0, 1);
        pull(12, 0, 1, 0);
        // Just half the ring is ahead, from either side; one more is behind.
        pull(12, 0, 4, 6);
        pull(12, 6, 10, 0);
        pull(12, 0, 3, 5);
        pull(12, 0, 11, 7);
        pull(12, 6, 5, 1);
        pull(12, 5, 4, 0);
        pull(4, 3, 1, 1);
        pull(4, 1, 3, 3);
        pull(2, 0, 1, 1);
        pull(2, 1, 0, 0);
        // Halves as they are: of 5 parts 2 are ahead, 3 are 2 behind.
        pull(5, 0, 2, 2);
        pull(5, 0, 0, 3);
        pull(5, 4, 1, 1);
        pull(5, 4, 4, 2);
        pull(7, 0, 2, 3);
        pull(7, 0, 0, 4);
        pull(3, 0, 1, 1);
        pull(3, 0, 1, 2);
        pull(4096, 0, 1025, 2048);
        pull(4096, 2048, 3073, 0);
        pull(4096, 0, 3074, 2049);
        pull(4095, 0, 1024, 2047);
        pull(4095, 0, 3073, 2048);
    }

    private static void towardsNought() {
        C.about("their sum by (how many these are, and 1), towards 0.");
        pull(12, 5, 6, 6);
        pull(12, 5, 6, 4);
        pull(12, 5, 7, 8);
        pull(12, 5, 5, 2);
        // One with a like PHASE counts among how many they are.
        pull(12, 5, 6, 7, 5);
        pull(12, 5, 6, 3, 5);
        pull(12, 5, 7, 8, 5);
        pull(12, 5, 5, 2, 5);
        pull(12, 5, 6, 8, 2);
        pull(12, 5, 7, 8, 2, 9);
        pull(12, 5, 6, 8, 2, 8);
        int[] all = new int[23];
        Arrays.fill(all, 5);
        pull(12, 0, 5, all);
        Arrays.fill(all, 7);
        pull(12, 0, 9, all);
        Arrays.fill(all, 1);
        pull(12, 0, 1, all);
        Arrays.fill(all, 1);
        pull(2, 0, 1, all);
    }

    private static void restsByRing() {
        C.about("All rests by RING, from 0 on.");
        pull(12, 11, 3, 5);
        pull(12, 9, 0, 1);
        pull(12, 9, 11, 11);
        pull(12, 1, 0, 9);
        pull(12, 0, 0, 9);
        pull(12, 0, 11, 8);
        pull(4096, 4095, 1024, 2047);
        state(tickOf(12, PLAIN, 11), "PLAIN behind 11", 0);
        state(tickOf(2, HELD, 1), "HELD behind 1 of 2", 0);
    }

    private static BeatBench tickOf(int ring, int kind, int phase) {
        BeatBench x = bench(ring, kind, phase);
        x.go(1);
        return x;
    }

    // ---- FIRING ones

    private static void comingToRing() {
        C.about("Then FIRING ones, each 1 more; those that come to RING BEAT, in a line: first these, by number;");
        BeatBench x = bench(12, FIRING, 0, 10, 11);
        x.go(1);
        state(x, "1 more", 1, 11, 0);
        beats(x, "of the last part alone", 0, 0, 1);
        BeatBench two = bench(2, FIRING, 0, 1);
        two.go(1);
        beats(two, "of a ring of 2", 0, 1);
        two.go(1);
        beats(two, "of a ring of 2", 1, 1);
        BeatBench all = bench(4096, FIRING);
        for (int k = 0; k < 24; k++) all.beater(FIRING, 4095);
        all.roads(1);
        all.go(1);
        for (int k = 0; k < 24; k++) {
            C.due(all, "PHASE of " + k, all.beats(k, 0), 0, 0);
            C.due(all, "BEATS of " + k, all.beats(k, 1), 1, 0);
        }
    }

    private static void phaseOfABeat() {
        C.about("the first of the line BEATS: its PHASE is 0;");
        BeatBench x = bench(12, FIRING, 11, 0, 10);
        setPushes(x, 4096);
        x.roads(1);
        x.go(1);
        state(x, "0, not the rest of 4,097 by 12", 0, 0, 0);
        beats(x, "each once", 1, 1, 1);
    }

    private static void whoIsPushed() {
        C.about("each FIRING one that SEES it (but itself), by number, that is not in the line, nor has been in this TICK, "
            + "is PUSHED:");
        BeatBench own = bench(12, FIRING, 11);
        setPushes(own, 5);
        own.road(0, 0, true);
        own.go(1);
        state(own, "none pushes itself", 0);
        beats(own, "none pushes itself", 1);

        BeatBench seen = bench(12, FIRING, 11, 1, 1);
        setPushes(seen, 5);
        seen.road(0, 1, true);
        seen.road(2, 0, true);
        seen.go(1);
        state(seen, "to be seen is not to be PUSHED", 0, 2, 7);

        BeatBench both = bench(12, FIRING, 11, 11);
        setPushes(both, 5);
        both.roads(1);
        both.go(1);
        state(both, "both in the line", 0, 0);
        beats(both, "both in the line", 1, 1);

        BeatBench been = bench(12, FIRING, 11, 6);
        setPushes(been, 5);
        been.roads(1);
        been.go(1);
        state(been, "0 has been in the line", 0, 0);
        beats(been, "0 has been in the line", 1, 1);

        BeatBench thrice = bench(12, FIRING, 11, 1, 11, 11);
        setPushes(thrice, 2);
        thrice.roads(1);
        thrice.go(1);
        state(thrice, "PUSHED by each of three", 0, 8, 0, 0);
    }

    /** Where a FIRING one comes that is PUSHED by one other. */
    private static void pushed(int ring, int from, int due, int... pushes) {
        BeatBench x = bench(ring, FIRING, ring - 1, from);
        setPushes(x, pushes);
        x.road(1, 0, true);
        x.go(1);
        C.due(x, "PUSHED from " + from + " of " + ring, x.beats(1, 0), due, 0);
    }

    private static void whichNumberPushes() {
        C.about("by number i of the PUSH TABLE, i being its PHASE times how many that has, by RING, rounded down;");
        // Of three numbers and 20 parts: PHASES to 6, from 7 to 13, from 14 on.
        pushed(20, 0, 2, 1, 2, 3);
        pushed(20, 5, 7, 1, 2, 3);
        pushed(20, 6, 9, 1, 2, 3);
        pushed(20, 12, 15, 1, 2, 3);
        pushed(20, 13, 17, 1, 2, 3);
        pushed(20, 15, 19, 1, 2, 3);
        pushed(20, 16, 0, 1, 2, 3);
        // More numbers than parts: PHASE 1 of 2 is number 8 of 16, PHASES 1 and 2 of 3 are numbers 5 and 10.
        pushed(2, 0, 1, 9, 9, 9, 9, 9, 9, 9, 9, 0, 9, 9, 9, 9, 9, 9, 9);
        pushed(3, 0, 1, 9, 9, 9, 9, 9, 0, 9, 9, 9, 9, 9, 9, 9, 9, 9, 9);
        pushed(3, 1, 2, 9, 9, 9, 9, 9, 9, 9, 9, 9, 9, 0, 9, 9, 9, 9, 9);
        // As many numbers as parts, and the edges of a wide ring.
        pushed(4, 0, 2, 9, 1, 0, 9);
        pushed(4, 1, 2, 9, 1, 0, 9);
        pushed(4096, 254, 255, 0, 9, 9, 9, 9, 9, 9, 9, 9, 9, 9, 9, 9, 9, 9, 9);
        pushed(4096, 255, 256, 9, 0, 9, 9, 9, 9, 9, 9, 9, 9, 9, 9, 9, 9, 9, 9);
        pushed(4096, 3838, 3839, 9, 9, 9, 9, 9, 9, 9, 9, 9, 9, 9, 9, 9, 9, 0, 9);
        pushed(4096, 3839, 3840, 9, 9, 9, 9, 9, 9, 9, 9, 9, 9, 9, 9, 9, 9, 9, 0);
        pushed(4096, 4094, 4095, 9, 9, 9, 9, 9, 9, 9, 9, 9, 9, 9, 9, 9, 9, 9, 0);
        BeatBench x = bench(20, FIRING, 19, 5, 19);
        setPushes(x, 4, 1);
        x.roads(1);
        x.go(1);
        state(x, "6 and 4, then by its PHASE then: 10 and 1", 0, 11, 0);
    }

    private static void behindTheLine() {
        C.about("if it comes to RING or more then, it is behind the line; so on, till the line is empty.");
        for (int phase = 0; phase < 11; phase++) {
            BeatBench x = bench(12, FIRING, 11, phase);
            setPushes(x, 5);
            x.road(1, 0, true);
            x.go(1);
            boolean beat = phase + 6 >= 12;
            state(x, "from " + phase, 0, beat ? 0 : phase + 6);
            beats(x, "from " + phase, 1, beat ? 1 : 0);
        }
        for (int roads = 2; roads <= 3; roads++) {
            BeatBench chain = bench(12, FIRING, 11);
            setPushes(chain, 5);
            for (int k = 1; k < 24; k++) chain.beater(FIRING, 6);
            chain.roads(roads);
            chain.go(1);
            for (int k = 0; k < 24; k++) C.due(chain, "BEATS of " + k, chain.beats(k, 1), 1, 0);
        }
        BeatBench back = bench(12, FIRING);
        setPushes(back, 5);
        for (int k = 0; k < 24; k++) back.beater(FIRING, k == 23 ? 11 : k == 3 ? 5 : 6);
        for (int k = 0; k < 23; k++) back.road(k, k + 1, true);
        back.go(1);
        for (int k = 0; k < 24; k++) {
            C.due(back, "PHASE of " + k, back.beats(k, 0), k > 3 ? 0 : k == 3 ? 11 : 7, 0);
            C.due(back, "BEATS of " + k, back.beats(k, 1), k > 3 ? 1 : 0, 0);
        }
    }

    private static void inTheLine() {
        C.about("(In the line a PHASE is RING or more, and no more changed.)");
        BeatBench x = bench(12, FIRING, 11, 11, 6, 1, 11);
        setPushes(x, 5);
        for (int other : new int[] {0, 1, 4}) x.road(2, other, true);
        x.road(3, 2, true);
        x.go(1);
        state(x, "2 is seen to BEAT once", 0, 0, 0, 7, 0);
        beats(x, "2 in the line is PUSHED no more", 1, 1, 1, 0, 1);
    }

    // ---- STATES, what is counted, arcs

    private static void inStep() {
        C.about("A STATE: all PHASES. IN STEP are BEATERS with like PHASES.");
        BeatBench x = bench(4096, PLAIN, 0, 4095, 0);
        C.due(x, "step(5)", x.step(5), 1, 0);
        C.due(x, "step(3): neighbours on the ring", x.step(3), 0, 0);
        C.due(x, "step(7)", x.step(7), 0, 0);
        C.due(x, "step(2): one", x.step(2), 1, 0);
        C.due(x, "step(0): none", x.step(0), 1, 0);
        x.turn(1, 0);
        C.due(x, "step(7)", x.step(7), 1, 0);
        x.kind(1, FIRING);
        C.due(x, "step(7): of unlike KINDS", x.step(7), 1, 0);
    }

    private static void counted() {
        C.about("TICKS and BEATS of each BEATER are counted from clear() on.");
        BeatBench x = bench(3, FIRING, 2, 1);
        x.go(1);
        x.go(0);
        C.due(x, "TICKS", x.count(0), 1, 0);
        beats(x, "behind one TICK", 1, 0);
        x.go(3);
        C.due(x, "TICKS", x.count(0), 4, 0);
        beats(x, "behind four", 2, 1);
        x.clear();
        C.due(x, "TICKS", x.count(0), 0, 0);
        beats(x, "behind clear()", 0, 0);
        x.go(3);
        C.due(x, "TICKS", x.count(0), 3, 0);
        beats(x, "from clear() on", 1, 1);
        x.ring(3);
        C.due(x, "TICKS: ring() is no clear()", x.count(0), 3, 0);
        C.due(x, "beater", x.beater(FIRING, 0), 0, 0);
        beats(x, "of a new one", 0);
        x.go(2);
        C.due(x, "TICKS", x.count(0), 5, 0);
    }

    private static void arc(int ring, int due, int... phases) {
        BeatBench x = bench(ring, PLAIN, phases);
        C.due(x, "arc of all, of " + ring, x.arc((1 << phases.length) - 1), due, 0);
    }

    private static void arcs() {
        C.about("ARC of some BEATERS: the least number of parts, less 1, of a part of the ring without a gap in which all "
            + "their PHASES lie.");
        arc(12, 0, 7);
        arc(12, 0, 7, 7, 7);
        arc(12, 1, 11, 0);
        arc(12, 1, 0, 11);
        arc(12, 5, 0, 5);
        arc(12, 6, 0, 6);
        arc(12, 5, 0, 7);
        arc(12, 8, 0, 4, 8);
        arc(12, 7, 1, 4, 9);
        arc(12, 4, 10, 2, 0, 11);
        arc(12, 11, 0, 1, 2, 3, 4, 5, 6, 7, 8, 9, 10, 11);
        arc(12, 10, 0, 1, 2, 3, 4, 6, 7, 8, 9, 10, 11);
        arc(2, 1, 0, 1);
        arc(3, 1, 0, 2);
        arc(3, 2, 0, 2, 1);
        arc(4096, 1, 0, 4095);
        arc(4096, 2048, 0, 2048);
        arc(4096, 2047, 0, 2049);
        BeatBench x = bench(12, PLAIN, 0, 6, 1);
        C.due(x, "arc(5): some of them alone", x.arc(5), 1, 0);
    }
}
