/** Promises 23 to 27: the ends of SMALL benches, who is sure to be IN STEP, and who must be held to lead the rest. */
public final class EndsTest {
    private static final Check C = new Check("EndsTest");

    public static void main(String[] args) {
        oneBeater();
        smallOrNot();
        pulledPair();
        firingPair();
        restingStates();
        numbering();
        largest();
        sure();
        leads();
        leadersOfAll();
        C.end();
    }

    private static BeatBench bench(int ring, int... kinds) {
        BeatBench x = new BeatBench();
        x.ring(ring);
        for (int kind : kinds) x.beater(kind, 0);
        return x;
    }

    private static void end(BeatBench x, int k, int least, int states, int basin) {
        C.due(x, "end(" + k + ", 0)", x.end(k, 0), least, 0);
        C.due(x, "end(" + k + ", 1)", x.end(k, 1), states, 0);
        C.due(x, "end(" + k + ", 2)", x.end(k, 2), basin, 0);
    }

    private static void oneBeater() {
        BeatBench x = bench(4096, 2);
        x.turn(0, 9);
        C.due(x, "ends()", x.ends(), 1, 0);
        end(x, 0, 0, 4096, 4096);
        C.none(x, "end(1, 0)", x.end(1, 0), 8);
        C.due(x, "the STATE stays", x.beats(0, 0), 9, 0);
        C.due(x, "BEATS stay", x.beats(0, 1), 0, 0);
        C.due(x, "TICKS stay", x.count(0), 0, 0);
    }

    /** At most 20,736: 144 and 2, 12 and 4, 2 and 14, 27 and 3; not 145 and 2, 13 and 4, 2 and 15, 28 and 3. */
    private static void smallOrNot() {
        small(144, 2, 144);
        small(145, 2, 0);
        small(12, 4, 1728);
        small(13, 4, 0);
        small(2, 14, 8192);
        small(2, 15, 0);
        small(27, 3, 729);
        small(28, 3, 0);
        small(4096, 1, 1);
        small(4096, 2, 0);
        small(4096, 24, 0);
    }

    private static void small(int ring, int many, int due) {
        BeatBench x = bench(ring, new int[many]);
        if (due > 0) {
            C.due(x, "ends() of " + ring + " and " + many, x.ends(), due, 0);
            C.due(x, "sure(0)", x.sure(0), (int) Math.pow(ring, many), 0);
        } else {
            C.none(x, "ends() of " + ring + " and " + many, x.ends(), 5);
            C.none(x, "sure(0)", x.sure(0), 5);
            C.none(x, "end(0, 0)", x.end(0, 0), 8);
        }
    }

    /** Two PULLED ones of a ring of 4 that see each other: only those half a ring apart go by 2. */
    private static void pulledPair() {
        BeatBench x = bench(4, 1, 1);
        x.roads(1);
        C.due(x, "ends()", x.ends(), 5, 0);
        end(x, 2, 2, 2, 2);
        end(x, 4, 7, 2, 2);
        C.due(x, "ends() again", x.ends(), 5, 0);
        C.yes(x, "roads(0)", x.roads(0));
        C.due(x, "kept till the next ends()", x.end(4, 0), 7, 0);
        C.due(x, "sure() keeps no ends", x.sure(3), 4, 0);
        end(x, 4, 7, 2, 2);
        C.due(x, "ends()", x.ends(), 4, 0);
        C.none(x, "end(4, 0)", x.end(4, 0), 8);
        end(x, 3, 3, 4, 4);
        C.yes(x, "ring(4)", x.ring(4));
        C.none(x, "ends()", x.ends(), 5);
        end(x, 3, 3, 4, 4);
    }

    /**
     * Two FIRING ones of a ring of 4, pushed by 2: one at the ring's end takes the other one along from PHASE 2 on
     * (1 ahead of the TICK), so all come IN STEP but (3, 0) and its like.
     */
    private static void firingPair() {
        BeatBench x = new BeatBench();
        x.sheet(0, 0, 1);
        x.write(0, 0, 2);
        x.push(0, 1);
        x.ring(4);
        x.beater(2, 0);
        x.beater(2, 0);
        x.roads(1);
        // (3, 0) -> (0, 3) -> (3, 0): the other one comes to 1 and is pushed to 3.
        C.due(x, "ends()", x.ends(), 2, 0);
        end(x, 0, 0, 4, 14);
        end(x, 1, 3, 2, 2);
        C.due(x, "sure(3)", x.sure(3), 14, 0);
        C.due(x, "sure(1)", x.sure(1), 16, 0);
    }

    /** Three PULLED ones of a ring of 6, each 2 ahead of the one that it SEES, are pulled back by 1 and rest. */
    private static void restingStates() {
        BeatBench x = bench(6, 1, 1, 1);
        x.roads(2);
        int found = x.ends();
        int rests = 0;
        long basins = 0;
        int before = -1;
        for (int k = 0; k < found; k++) {
            C.due("END " + k + " is behind " + before, x.end(k, 0) > before, true);
            before = x.end(k, 0);
            basins += x.end(k, 2);
            rests += x.end(k, 1) == 1 ? 1 : 0;
            C.due("BASIN of END " + k, x.end(k, 2) >= x.end(k, 1), true);
        }
        C.due("all STATES come to one", basins, 216);
        C.due("STATES at rest", rests, 6);
        // PHASES 0, 2, 4: BEATER 1 SEES 0, which is 2 behind it; BEATER 0 SEES 2, at 4, 2 behind it too.
        x.turn(0, 0);
        x.turn(1, 2);
        x.turn(2, 4);
        C.due(x, "round(1)", x.round(1), 1, 0);
    }

    /** A PULLED one that SEES a PLAIN one comes to the same place or one on either side of it. */
    private static void numbering() {
        BeatBench x = bench(5, 1, 0);
        x.road(0, 1, true);
        // Behind by 0, 1 or 2: stays at 0, 1, 1; ahead by 1 or 2: stays at 1, 1.
        C.due(x, "ends()", x.ends(), 3, 0);
        end(x, 0, 0, 5, 5);
        end(x, 1, 1, 5, 10);
        end(x, 2, 4, 5, 10);
        BeatBench y = bench(5, 0, 1);
        y.road(1, 0, true);
        C.due(y, "ends()", y.ends(), 3, 0);
        end(y, 0, 0, 5, 5);
        end(y, 1, 1, 5, 10);
        end(y, 2, 4, 5, 10);
    }

    private static void largest() {
        BeatBench x = bench(2, new int[14]);
        C.due(x, "ends()", x.ends(), 8192, 0);
        end(x, 8191, 8191, 2, 2);
        C.none(x, "end(8192, 0)", x.end(8192, 0), 8);
        C.due(x, "sure of all", x.sure((1 << 14) - 1), 2, 0);
        C.due(x, "sure of the first and the last", x.sure(1 << 13 | 1), 8192, 0);
        C.due(x, "sure of all but one", x.sure((1 << 13) - 1), 4, 0);
        C.none(x, "sure(1 << 14)", x.sure(1 << 14), 2);
    }

    private static void sure() {
        BeatBench x = bench(5, 1, 0, 3);
        x.road(0, 1, true);
        C.due(x, "sure(0)", x.sure(0), 125, 0);
        C.due(x, "sure(2)", x.sure(2), 125, 0);
        C.due(x, "sure(3): those IN STEP at first alone", x.sure(3), 25, 0);
        C.due(x, "sure(6)", x.sure(6), 25, 0);
        C.due(x, "sure(5): 2 at one of three places of 0's end", x.sure(5), 25, 0);
        C.due(x, "sure(7)", x.sure(7), 5, 0);
        C.none(x, "sure(8)", x.sure(8), 2);
        C.none(x, "sure(-1)", x.sure(-1), 2);
        C.due(x, "the STATE stays", x.beats(0, 0), 0, 0);
        C.due(x, "TICKS stay", x.count(0), 0, 0);
    }

    private static void leads() {
        BeatBench x = bench(12, 0, 1, 2, 3, 0, 0);
        C.due(x, "lead() without ROADS", x.lead(), 6, 0);
        for (int k = 0; k < 6; k++) C.due(x, "leader(" + k + ")", x.leader(k), k, 0);
        C.none(x, "leader(6)", x.leader(6), 8);
        x.road(0, 3, true);
        x.road(3, 4, true);
        x.road(4, 3, true);
        x.road(1, 0, true);
        x.road(2, 1, true);
        x.road(1, 2, true);
        x.road(5, 5, true);
        C.due(x, "kept till the next lead()", x.leader(5), 5, 0);
        C.due(x, "lead()", x.lead(), 2, 0);
        C.due(x, "leader(0)", x.leader(0), 3, 0);
        C.due(x, "leader(1)", x.leader(1), 5, 0);
        C.none(x, "leader(2)", x.leader(2), 8);
        C.none(x, "leader(-1)", x.leader(-1), 8);
        x.road(4, 1, true);
        C.due(x, "one heap of all but 5", x.lead(), 2, 0);
        C.due(x, "leader(0)", x.leader(0), 0, 0);
        x.road(0, 5, true);
        C.due(x, "all lead to 5", x.lead(), 1, 0);
        C.due(x, "leader(0)", x.leader(0), 5, 0);
        x.ring(12);
        C.none(x, "lead() of none", x.lead(), 8);
        C.due(x, "kept", x.leader(0), 5, 0);
    }

    private static void leadersOfAll() {
        BeatBench x = bench(12, new int[24]);
        C.due(x, "lead()", x.lead(), 24, 0);
        C.due(x, "leader(23)", x.leader(23), 23, 0);
        C.none(x, "leader(24)", x.leader(24), 8);
        for (int k = 0; k < 23; k++) x.road(k, k + 1, true);
        C.due(x, "a way of 24", x.lead(), 1, 0);
        C.due(x, "leader(0)", x.leader(0), 23, 0);
        x.roads(2);
        C.due(x, "a round of 24", x.lead(), 1, 0);
        C.due(x, "leader(0)", x.leader(0), 0, 0);
        x.road(0, 23, false);
        C.due(x, "a way back", x.lead(), 1, 0);
        C.due(x, "leader(0)", x.leader(0), 0, 0);
        x.road(12, 11, false);
        C.due(x, "two ways", x.lead(), 2, 0);
        C.due(x, "leader(1)", x.leader(1), 12, 0);
    }
}
