/** Promises 7 to 20: the ring, beaters, roads, pushes, ticks, and what is asked of a state. */
public final class BenchTest {
    private static final Check C = new Check("BenchTest");

    public static void main(String[] args) {
        rings();
        beaters();
        phases();
        roads();
        plainOnes();
        pulls();
        fires();
        pushTables();
        counts();
        steps();
        arcs();
        C.end();
    }

    private static BeatBench bench(int ring, int[] kinds, int... phases) {
        BeatBench x = new BeatBench();
        C.yes(x, "ring(" + ring + ")", x.ring(ring));
        for (int k = 0; k < kinds.length; k++) {
            C.due(x, "beater", x.beater(kinds[k], phases[k]), k, 0);
        }
        return x;
    }

    private static int[] kinds(int... kinds) {
        return kinds;
    }

    private static void state(BeatBench x, String when, int... phases) {
        for (int k = 0; k < phases.length; k++) {
            C.due(x, "PHASE of " + k + " " + when, x.beats(k, 0), phases[k], 0);
        }
    }

    private static void rings() {
        BeatBench x = bench(2, kinds(0, 1, 2, 3), 0, 1, 0, 1);
        x.roads(1);
        x.go(7);
        C.yes(x, "ring(4096)", x.ring(4096));
        C.due(x, "count(1)", x.count(1), 4096, 0);
        C.due(x, "count(2)", x.count(2), 0, 0);
        C.due(x, "count(3)", x.count(3), 0, 0);
        C.due(x, "count(0): TICKS are counted from clear() on", x.count(0), 7, 0);
        C.due(x, "beater(2, 4095)", x.beater(2, 4095), 0, 0);
        C.due(x, "beater(0, 0)", x.beater(0, 0), 1, 0);
        C.due(x, "a new one SEES none", x.beats(0, 3), 0, 0);
        C.due(x, "a new one has no BEATS", x.beats(0, 1), 0, 0);
        C.due(x, "count(3)", x.count(3), 0, 0);
        C.yes(x, "ring(2)", x.ring(2));
        C.none(x, "beater(0, 2)", x.beater(0, 2), 2);
        C.due(x, "beater(0, 1)", x.beater(0, 1), 0, 0);
    }

    private static void beaters() {
        BeatBench x = new BeatBench();
        for (int k = 0; k < 24; k++) {
            C.due(x, "beater " + k, x.beater(k % 4, k % 12), k, 0);
            C.due(x, "PHASE of " + k, x.beats(k, 0), k % 12, 0);
            C.due(x, "KIND of " + k, x.beats(k, 2), k % 4, 0);
            C.due(x, k + " SEES", x.beats(k, 3), 0, 0);
        }
        C.none(x, "beater(0, 0)", x.beater(0, 0), 7);
        C.due(x, "count(2)", x.count(2), 24, 0);
        C.yes(x, "kind(23, 2)", x.kind(23, 2));
        C.due(x, "KIND of 23", x.beats(23, 2), 2, 0);
        C.due(x, "KIND of 22", x.beats(22, 2), 2, 0);
        C.due(x, "KIND of 21", x.beats(21, 2), 1, 0);
        C.yes(x, "turn(23, 0)", x.turn(23, 0));
        C.due(x, "PHASE of 23", x.beats(23, 0), 0, 0);
        C.yes(x, "turn(0, 11)", x.turn(0, 11));
        C.due(x, "PHASE of 0", x.beats(0, 0), 11, 0);
        C.due(x, "PHASE of 1", x.beats(1, 0), 1, 0);
        C.yes(x, "roads(1)", x.roads(1));
        C.due(x, "count(3)", x.count(3), 24 * 23, 0);
        C.due(x, "23 SEES", x.beats(23, 3), 23, 0);
        C.yes(x, "road(23, 23, true)", x.road(23, 23, true));
        C.due(x, "23 SEES", x.beats(23, 3), 24, 0);
        C.yes(x, "go(20000)", x.go(20000));
        C.due(x, "count(0)", x.count(0), 20000, 0);
    }

    private static void phases() {
        BeatBench x = bench(12, kinds(0, 0, 0), 1, 2, 3);
        x.sheet(0, 0, 5);
        x.write(0, 0, 11);
        x.write(0, 1, 0);
        x.write(0, 2, 7);
        x.write(0, 3, 12);
        C.yes(x, "phases(0): more numbers than BEATERS", x.phases(0));
        state(x, "by phases()", 11, 0, 7);
        C.due(x, "a fourth", x.beater(0, 5), 3, 0);
        C.no(x, "phases(0): 12 of 12", x.phases(0), 2);
        state(x, "unchanged", 11, 0, 7, 5);
        x.sheet(0, 0, 3);
        C.no(x, "phases(0): three numbers of four", x.phases(0), 4);
        x.sheet(1, 3, 4);
        x.write(1, 3, 1L << 32);
        C.no(x, "phases(1): a number above all ints", x.phases(1), 2);
        x.write(1, 3, -1);
        C.no(x, "phases(1): -1", x.phases(1), 2);
        x.write(1, 3, 4);
        C.yes(x, "phases(1)", x.phases(1));
        state(x, "by phases()", 0, 0, 0, 4);
        x.ring(5);
        x.sheet(2, 0, 0);
        C.yes(x, "phases(2) of no BEATERS", x.phases(2));
    }

    private static void roads() {
        BeatBench x = bench(12, kinds(1, 1, 1, 1), 0, 0, 0, 0);
        C.yes(x, "roads(2)", x.roads(2));
        C.due(x, "count(3)", x.count(3), 4, 0);
        sees(x, 0, 3);
        sees(x, 1, 0);
        sees(x, 3, 2);
        C.yes(x, "roads(3)", x.roads(3));
        C.due(x, "count(3)", x.count(3), 8, 0);
        sees(x, 0, 1, 3);
        sees(x, 1, 0, 2);
        sees(x, 3, 0, 2);
        C.yes(x, "road(2, 2, true)", x.road(2, 2, true));
        C.yes(x, "road(2, 2, true) again", x.road(2, 2, true));
        C.due(x, "count(3)", x.count(3), 9, 0);
        C.yes(x, "roads(1): none to itself", x.roads(1));
        C.due(x, "count(3)", x.count(3), 12, 0);
        sees(x, 2, 0, 1, 3);
        C.yes(x, "road(2, 1, false)", x.road(2, 1, false));
        C.yes(x, "road(2, 1, false) again", x.road(2, 1, false));
        C.due(x, "count(3)", x.count(3), 11, 0);
        C.due(x, "1 SEES", x.beats(1, 3), 3, 0);
        sees(x, 2, 0, 3);
        C.yes(x, "roads(0)", x.roads(0));
        C.due(x, "count(3)", x.count(3), 0, 0);
        BeatBench two = bench(12, kinds(0, 0), 0, 0);
        two.roads(3);
        C.due(two, "both sides of two", two.count(3), 2, 0);
        two.roads(2);
        C.due(two, "the one ahead, of two", two.count(3), 2, 0);
        BeatBench one = bench(12, kinds(0), 0);
        one.roads(1);
        C.due(one, "all others of one", one.count(3), 0, 0);
        one.roads(2);
        C.due(one, "of one, BEATER 0 SEES the last one, itself", one.count(3), 1, 0);
        one.roads(3);
        C.due(one, "both sides of one", one.count(3), 1, 0);
        C.yes(one, "roads(3) of none", one.ring(12) && one.roads(3));
        C.due(one, "count(3)", one.count(3), 0, 0);
    }

    /** Whom a PULLED one SEES is told by who pulls it: of all others one alone stands 6 ahead, or none. */
    private static void sees(BeatBench x, int beater, int... seen) {
        C.due(x, beater + " SEES how many", x.beats(beater, 3), seen.length, 0);
        for (int other = 0; other < 4; other++) {
            boolean due = false;
            for (int s : seen) due |= s == other;
            for (int k = 0; k < 4; k++) x.turn(k, k == other && k != beater ? 6 : 0);
            x.go(1);
            int pull = due ? 6 / (seen.length + 1) : 0;
            C.due(x, beater + " pulled by " + other, x.beats(beater, 0), 1 + pull, 0);
        }
    }

    private static void plainOnes() {
        BeatBench x = bench(3, kinds(0, 3), 2, 1);
        x.roads(1);
        C.yes(x, "go(0)", x.go(0));
        state(x, "behind go(0)", 2, 1);
        C.yes(x, "go(1)", x.go(1));
        state(x, "behind go(1)", 0, 2);
        C.yes(x, "go(20000)", x.go(20000));
        state(x, "behind 20,000 more", 2, 1);
        C.due(x, "PLAIN ones do not BEAT", x.beats(0, 1), 0, 0);
        C.due(x, "HELD ones do not BEAT", x.beats(1, 1), 0, 0);
    }

    /** One PULLED one of a ring, and PLAIN ones that it SEES: where it comes in one TICK. */
    private static void pull(int ring, int from, int due, int... others) {
        BeatBench x = new BeatBench();
        x.ring(ring);
        x.beater(1, from);
        x.road(0, 0, true);
        for (int other : others) {
            int k = x.beater(0, other);
            x.road(0, k, true);
        }
        x.go(1);
        C.due(x, "PULLED from " + from + " of " + ring, x.beats(0, 0), due, 0);
    }

    private static void pulls() {
        pull(12, 0, 1);
        pull(12, 0, 4, 6);
        pull(12, 6, 10, 0);
        pull(12, 1, 0, 8);
        pull(12, 0, 3, 5);
        pull(12, 0, 11, 7);
        pull(12, 5, 5, 2);
        pull(12, 5, 7, 8);
        pull(12, 5, 6, 4);
        pull(12, 0, 3, 4, 3);
        pull(12, 0, 1, 4, 8);
        pull(12, 11, 1, 2);
        pull(12, 0, 11, 8);
        pull(5, 0, 2, 2);
        pull(5, 0, 0, 3);
        pull(5, 0, 2, 2, 2);
        pull(5, 0, 0, 3, 3);
        pull(7, 3, 5, 6);
        pull(7, 3, 3, 0);
        pull(4, 3, 1, 1);
        pull(2, 1, 0, 0, 0, 0);
        pull(3, 2, 0, 0, 0, 0);
        pull(4096, 4095, 1024, 2047);
        pull(4096, 0, 3074, 2049);
        BeatBench x = bench(12, kinds(1, 1, 0), 0, 4, 8);
        x.road(0, 1, true);
        x.road(1, 2, true);
        x.road(2, 0, true);
        x.go(1);
        state(x, "all at once", 3, 7, 9);
        BeatBench y = bench(12, kinds(1, 2), 0, 11);
        y.road(0, 1, true);
        y.go(1);
        state(y, "by the PHASE of a FIRING one ahead of the TICK", 1, 0);
    }

    private static BeatBench firing(int ring, int[] pushes, int... phases) {
        BeatBench x = new BeatBench();
        x.sheet(0, 2, pushes.length);
        for (int k = 0; k < pushes.length; k++) x.write(0, k, pushes[k]);
        C.yes(x, "push", x.push(0, pushes.length));
        x.ring(ring);
        for (int phase : phases) x.beater(2, phase);
        return x;
    }

    private static void beatsOf(BeatBench x, int... due) {
        for (int k = 0; k < due.length; k++) C.due(x, "BEATS of " + k, x.beats(k, 1), due[k], 0);
    }

    private static void fires() {
        BeatBench first = bench(12, kinds(2, 2), 11, 4);
        first.road(1, 0, true);
        first.go(1);
        state(first, "pushed by the table that is at first", 0, 6);
        beatsOf(first, 1, 0);

        BeatBench twice = firing(10, new int[] {3, 1}, 9, 9, 3);
        twice.roads(1);
        twice.go(1);
        state(twice, "pushed by both, by another number the second time", 0, 0, 8);
        beatsOf(twice, 1, 1, 0);

        BeatBench chain = firing(10, new int[] {4}, 5, 5, 9, 4);
        chain.road(1, 2, true);
        chain.road(0, 1, true);
        chain.road(2, 0, true);
        chain.road(3, 0, true);
        chain.go(1);
        state(chain, "one behind the other", 0, 0, 0, 9);
        beatsOf(chain, 1, 1, 1, 0);

        BeatBench own = firing(10, new int[] {4}, 9);
        own.road(0, 0, true);
        own.go(1);
        state(own, "none pushes itself", 0);
        beatsOf(own, 1);

        BeatBench kinds = firing(10, new int[] {4}, 9);
        kinds.beater(0, 3);
        kinds.beater(1, 3);
        kinds.beater(3, 3);
        kinds.road(1, 0, true);
        kinds.road(3, 0, true);
        kinds.go(1);
        state(kinds, "only FIRING ones are pushed", 0, 4, 4, 4);
        kinds.turn(0, 2);
        kinds.turn(1, 9);
        kinds.road(0, 1, true);
        kinds.go(1);
        state(kinds, "only FIRING ones push", 3, 0, 5, 5);
        beatsOf(kinds, 1, 0, 0, 0);

        BeatBench far = firing(12, new int[] {4096}, 11, 0);
        far.roads(1);
        far.go(1);
        state(far, "a push above the ring", 0, 0);
        beatsOf(far, 1, 1);
        C.yes(far, "clear()", far.clear());
        beatsOf(far, 0, 0);
        C.due(far, "TICKS", far.count(0), 0, 0);
        state(far, "clear() leaves PHASES", 0, 0);
        far.go(12);
        beatsOf(far, 1, 1);
    }

    /** Number i of the PUSH TABLE, by a pushed one's PHASE, rounded down. */
    private static void pushTables() {
        int[] sixteen = new int[16];
        for (int k = 0; k < 16; k++) sixteen[k] = 20 * k;
        for (int phase = 0; phase < 10; phase++) {
            BeatBench x = firing(1000, sixteen, 999, phase * 62);
            x.road(1, 0, true);
            x.go(1);
            int i = (phase * 62 + 1) * 16 / 1000;
            C.due(x, "pushed by number " + i, x.beats(1, 0), phase * 62 + 1 + 20 * i, 0);
        }
        BeatBench last = firing(4096, sixteen, 4095, 3838);
        last.road(1, 0, true);
        last.go(1);
        state(last, "by number 14, the last PHASE for it: 3,839 and 280 is above the ring", 0, 0);
        beatsOf(last, 1, 1);
        BeatBench at = firing(4096, sixteen, 4095, 255);
        at.road(1, 0, true);
        at.go(1);
        state(at, "by number 1, the first PHASE for it", 0, 276);
        BeatBench edge = firing(4096, sixteen, 4095, 254);
        edge.road(1, 0, true);
        edge.go(1);
        state(edge, "by number 0, the last PHASE for it", 0, 255);
        C.yes(edge, "ring(8)", edge.ring(8));
        edge.beater(2, 7);
        edge.beater(2, 2);
        edge.road(1, 0, true);
        edge.go(1);
        state(edge, "ring() leaves the PUSH TABLE: number 6 of it, 120", 0, 0);
        edge.sheet(1, 3, 17);
        edge.write(1, 0, 4096);
        C.yes(edge, "push(1, 16)", edge.push(1, 16));
        edge.write(1, 0, 4097);
        C.no(edge, "push(1, 16)", edge.push(1, 16), 2);
        edge.write(1, 0, (1L << 32) + 1);
        C.no(edge, "push(1, 16): above all ints", edge.push(1, 16), 2);
        edge.turn(0, 7);
        edge.turn(1, 2);
        edge.go(1);
        state(edge, "as the right push() left it", 0, 3);
        edge.turn(0, 7);
        edge.turn(1, 0);
        edge.kind(1, 2);
        edge.go(1);
        state(edge, "number 2 of it", 0, 1);
    }

    private static void counts() {
        BeatBench x = new BeatBench();
        C.yes(x, "go(5) of no BEATERS", x.go(5));
        C.due(x, "count(0)", x.count(0), 5, 0);
        C.yes(x, "go(20000)", x.go(20000));
        C.due(x, "count(0)", x.count(0), 20005, 0);
        C.yes(x, "clear()", x.clear());
        C.due(x, "count(0)", x.count(0), 0, 0);
        BeatBench y = firing(7, new int[] {0}, 3, 3);
        y.go(20000);
        beatsOf(y, 2857, 2857);
        state(y, "behind 20,000", 4, 4);
        y.kind(0, 0);
        y.go(7);
        beatsOf(y, 2857, 2858);
        C.due(y, "count(0)", y.count(0), 20007, 0);
    }

    private static void steps() {
        BeatBench x = bench(12, kinds(0, 1, 2, 3), 5, 4, 5, 5);
        int[] due = {1, 1, 1, 0, 1, 1, 0, 0, 1, 1, 0, 0, 1, 1, 0, 0};
        for (int set = 0; set < 16; set++) C.due(x, "step(" + set + ")", x.step(set), due[set], 0);
        C.none(x, "step(16)", x.step(16), 2);
        for (int k = 4; k < 24; k++) x.beater(0, 5);
        C.due(x, "step of all", x.step(0xFFFFFF), 0, 0);
        C.due(x, "step of all but 1", x.step(0xFFFFFD), 1, 0);
        C.due(x, "step of the last", x.step(0x800000), 1, 0);
        C.none(x, "step(1 << 24)", x.step(1 << 24), 2);
        C.none(x, "step(1 << 31)", x.step(1 << 31), 2);
    }

    private static void arcs() {
        BeatBench x = bench(12, kinds(0, 0, 0, 0), 11, 2, 5, 5);
        C.due(x, "arc(1)", x.arc(1), 0, 0);
        C.due(x, "arc(12): like PHASES", x.arc(12), 0, 0);
        C.due(x, "arc(3): over the ring's beginning", x.arc(3), 3, 0);
        C.due(x, "arc(5): half of the ring", x.arc(5), 6, 0);
        C.due(x, "arc(7)", x.arc(7), 6, 0);
        C.due(x, "arc(6)", x.arc(6), 3, 0);
        x.turn(1, 8);
        C.due(x, "arc(7)", x.arc(7), 6, 0);
        x.turn(0, 0);
        x.turn(1, 4);
        x.turn(2, 8);
        C.due(x, "arc(7): all round", x.arc(7), 8, 0);
        C.none(x, "arc(0)", x.arc(0), 2);
        BeatBench two = bench(2, kinds(0, 0), 0, 1);
        C.due(two, "arc(3) of a ring of 2", two.arc(3), 1, 0);
        BeatBench wide = bench(4096, kinds(0, 0, 0), 0, 4095, 2047);
        C.due(wide, "arc(3)", wide.arc(3), 1, 0);
        C.due(wide, "arc(7)", wide.arc(7), 2048, 0);
    }
}
