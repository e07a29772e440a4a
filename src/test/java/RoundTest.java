/** Promises 21 and 22: when all comes round again, and when a set is IN STEP first. */
public final class RoundTest {
    private static final Check C = new Check("RoundTest");

    public static void main(String[] args) {
        plainRounds();
        leads();
        justWithin();
        justBeyond();
        meets();
        meetsLate();
        allBeaters();
        C.end();
    }

    private static void plainRounds() {
        C.about("What 0: LEAD, 1: ROUND (2; 8: no BEATERS; 10). The STATE stays.");
        BeatBench x = new BeatBench();
        x.ring(4096);
        x.beater(0, 17);
        C.due(x, "round(0)", x.round(0), 0, 0);
        C.due(x, "round(1)", x.round(1), 4096, 0);
        x.beater(3, 4095);
        x.beater(1, 3);
        C.due(x, "round(1)", x.round(1), 4096, 0);
        C.due(x, "the STATE stays", x.beats(1, 0), 4095, 0);
        C.due(x, "TICKS stay", x.count(0), 0, 0);
    }

    /** A PULLED one far behind a HELD one comes nearer by half each TICK, and stays one behind it. */
    private static void leads() {
        C.about("LEAD TICKS on, then again and again the same after ROUND TICKS, both least;");
        BeatBench x = new BeatBench();
        x.ring(64);
        x.beater(3, 20);
        x.beater(1, 0);
        x.road(1, 0, true);
        C.due(x, "round(0): 20, 10, 5, 3, 2, 1 behind", x.round(0), 5, 0);
        C.due(x, "round(1)", x.round(1), 64, 0);
        C.none(x, "meet(3): it stays one behind", x.meet(3), 8);
        x.turn(1, 19);
        C.due(x, "round(0)", x.round(0), 0, 0);
        x.turn(1, 51);
        C.due(x, "round(0): 33 behind is 31 ahead: 31, 16, 8, 4, 2, 1", x.round(0), 5, 0);
        x.go(3);
        C.due(x, "round(0)", x.round(0), 2, 0);
        C.due(x, "the STATE stays", x.beats(0, 0), 23, 0);
        BeatBench f = new BeatBench();
        f.ring(12);
        f.beater(2, 11);
        f.beater(2, 10);
        f.roads(1);
        C.due(f, "BEATS stay", f.beats(0, 1), 0, 0);
        C.due(f, "meet(3): pushed to the ring's end at once", f.meet(3), 1, 0);
        C.due(f, "round(0)", f.round(0), 1, 0);
        C.due(f, "round(1)", f.round(1), 12, 0);
        C.due(f, "BEATS stay", f.beats(0, 1) + f.beats(1, 1), 0, 0);
    }

    /** Two FIRING ones of a ring of 2,500 that push each other once a round: their round is 2,500 less the push. */
    private static BeatBench pair(int push) {
        BeatBench x = new BeatBench();
        x.sheet(0, 2, 1);
        x.write(0, 0, push);
        x.push(0, 1);
        x.ring(2500);
        x.beater(2, 2499);
        x.beater(2, 299);
        x.road(0, 1, true);
        x.road(1, 0, true);
        C.due(x, "round(1) of the pair", x.round(1), 2500 - push, 0);
        return x;
    }

    /** A round of 800, and a PLAIN one's of 2,500: together 20,000. */
    private static BeatBench twentyThousand() {
        BeatBench x = pair(1700);
        x.beater(0, 0);
        return x;
    }

    private static void justWithin() {
        C.about("SPENT (10) if both together are above 20,000.");
        BeatBench x = twentyThousand();
        C.due(x, "round(0)", x.round(0), 0, 0);
        C.due(x, "round(1)", x.round(1), 20000, 0);
        C.none(x, "meet(3): never, and it can be told", x.meet(3), 8);
        x.go(1);
        C.due(x, "round(1)", x.round(1), 20000, 0);
    }

    /** One more that is 2 behind the PLAIN one is 1 behind it from the first TICK on: LEAD 1. */
    private static void justBeyond() {
        C.about("SPENT (10) if both together are above 20,000.");
        BeatBench x = twentyThousand();
        x.beater(1, 2498);
        x.road(3, 2, true);
        C.none(x, "round(0)", x.round(0), 10);
        C.none(x, "round(1)", x.round(1), 10);
        C.none(x, "meet(3): never, but it can't be told", x.meet(3), 10);
        C.due(x, "the STATE stays", x.beats(3, 0), 2498, 0);
        C.due(x, "TICKS stay", x.count(0), 0, 0);
        C.due(x, "BEATS stay", x.beats(0, 1) + x.beats(1, 1), 0, 0);
        x.go(1);
        C.due(x, "round(0)", x.round(0), 0, 0);
        C.due(x, "round(1)", x.round(1), 20000, 0);
        C.none(x, "meet(3)", x.meet(3), 8);
    }

    private static void meets() {
        C.about("How many TICKS from now on a set is IN STEP first, 0 if it is now (2; 8: never;");
        BeatBench x = new BeatBench();
        C.due(x, "meet(0) of no BEATERS", x.meet(0), 0, 0);
        x.ring(12);
        x.beater(1, 0);
        x.beater(0, 0);
        x.beater(0, 6);
        x.road(0, 2, true);
        C.due(x, "meet(0)", x.meet(0), 0, 0);
        C.due(x, "meet(1)", x.meet(1), 0, 0);
        C.due(x, "meet(3)", x.meet(3), 0, 0);
        C.none(x, "meet(6)", x.meet(6), 8);
        C.none(x, "meet(5): 6, 3, 2, 1 behind, and so on", x.meet(5), 8);
        x.beater(0, 5);
        C.due(x, "meet(9)", x.meet(9), 3, 0);
        C.none(x, "meet(13)", x.meet(13), 8);
        C.none(x, "meet(16)", x.meet(16), 2);
    }

    /**
     * In a ring of 2,500 a pair of a round of 799 (pushes of 1,701) and a PLAIN one: together above 20,000. The PLAIN
     * one is set so that the first of the pair meets it late, as told by the same pair on numbers of its own.
     */
    private static void meetsLate() {
        C.about("10: not within 20,000, and it can't be told). The STATE stays.");
        BeatBench x = pair(1701);
        int last = -1;
        for (int phase = 0; phase < 2500 && last < 0; phase++) {
            int first = pairMeets(phase);
            if (first > 25_000) {
                last = first;
                x.beater(0, phase);
            }
        }
        C.due("there is one that meets late", last > 25_000, true);
        C.none(x, "round(0)", x.round(0), 10);
        C.none(x, "meet(5), not within 20,000", x.meet(5), 10);
        x.go(last - 20_001);
        C.none(x, "meet(5), in 20,001", x.meet(5), 10);
        x.go(1);
        C.due(x, "meet(5), in 20,000", x.meet(5), 20_000, 0);
        x.go(1);
        C.due(x, "meet(5), in 19,999", x.meet(5), 19_999, 0);
        x.go(19_999);
        C.due(x, "meet(5), now", x.meet(5), 0, 0);
        C.due(x, "step(5)", x.step(5), 1, 0);
    }

    private static int pairMeets(int phase) {
        int a = 2499;
        int b = 299;
        int plain = phase;
        for (int t = 0; t < 40_000; t++) {
            if (a == plain) return t;
            a++;
            b++;
            plain = (plain + 1) % 2500;
            if (a == 2500) {
                a = 0;
                b += 1701;
            } else if (b == 2500) {
                b = 0;
                a += 1701;
            }
        }
        return -1;
    }

    private static void allBeaters() {
        C.about("BEATERS, at most 24,");
        BeatBench x = new BeatBench();
        x.ring(4096);
        for (int k = 0; k < 24; k++) x.beater(0, 170 * k);
        C.due(x, "round(1) of 24", x.round(1), 4096, 0);
        C.none(x, "meet of the last two", x.meet(3 << 22), 8);
        for (int k = 0; k < 24; k++) x.kind(k, 1);
        x.turn(23, 3909);
        C.due(x, "step of all", x.step(0xFFFFFF), 0, 0);
        x.roads(1);
        for (int k = 0; k < 24; k++) x.turn(k, k);
        C.due(x, "round(1) of 24 PULLED ones", x.round(1), 4096, 0);
        for (int k = 0; k < 24; k++) x.turn(k, 7);
        C.due(x, "meet of all", x.meet(0xFFFFFF), 0, 0);
        C.due(x, "round(0)", x.round(0), 0, 0);
    }
}
