import java.util.Arrays;
import java.util.Random;

/** Terms, part 2, sentence by sentence: ROUND, SMALL benches, STATES, ENDS, BASIN and LEAD. */
public final class TermsRoundTest {
    private static final int PLAIN = 0;
    private static final int PULLED = 1;
    private static final int FIRING = 2;
    private static final int HELD = 3;
    private static final int MOST_TICKS = 20_000;
    private static final Check C = new Check("TermsRoundTest");

    public static void main(String[] args) {
        roundFromNow();
        roundsOfChance();
        spent();
        spentByLead();
        small();
        oneAtLeast();
        stateNumbers();
        comingRound();
        basins();
        leads();
        leastNumbers();
        C.end();
    }

    private static BeatBench bench(int ring, int... kinds) {
        BeatBench x = new BeatBench();
        x.ring(ring);
        for (int kind : kinds) x.beater(kind, 0);
        return x;
    }

    private static void turn(BeatBench x, int... phases) {
        for (int k = 0; k < phases.length; k++) C.yes(x, "turn", x.turn(k, phases[k]));
    }

    private static void round(BeatBench x, int lead, int round) {
        C.due(x, "round(0)", x.round(0), lead, 0);
        C.due(x, "round(1)", x.round(1), round, 0);
    }

    // ---- ROUND

    /** A PULLED one of a ring of 16 that SEES a HELD one 8 ahead of it: 8, 4, 2 and 1 behind it, then 1 for ever. */
    private static void roundFromNow() {
        C.about("ROUND: from the STATE that is: LEAD TICKS on, then again and again the same after ROUND TICKS, both least;");
        BeatBench x = bench(16, HELD, PULLED);
        x.road(1, 0, true);
        turn(x, 8, 0);
        for (int lead = 3; lead > 0; lead--) {
            round(x, lead, 16);
            x.go(1);
        }
        round(x, 0, 16);
        x.go(5);
        round(x, 0, 16);
        C.due(x, "step(3)", x.step(3), 0, 0);
        turn(x, 8, 8);
        round(x, 0, 16);
        // Three PULLED ones, each 2 ahead of the one that it SEES: at rest, a ROUND of 1.
        BeatBench rest = bench(6, PULLED, PULLED, PULLED);
        rest.roads(2);
        turn(rest, 0, 2, 4);
        round(rest, 0, 1);
        turn(rest, 0, 2, 5);
        C.due("a LEAD to another STATE", rest.round(0) > 0, true);
        BeatBench two = bench(2, PLAIN);
        round(two, 0, 2);
    }

    /** Large benches of chance: the STATES themselves tell whether LEAD and ROUND are right, and least. */
    private static void roundsOfChance() {
        int told = 0;
        int longOnes = 0;
        for (int seed = 0; seed < 60; seed++) {
            BeatBench x = crowd(seed);
            int lead = x.round(0);
            int round = x.round(1);
            C.due("round(0) and round(1) have one STATUS", (lead < 0) == (round < 0), true);
            if (lead >= 0) {
                told++;
                longOnes += lead > 0 && lead + round > 4096 ? 1 : 0;
                holdRound(seed, lead, round);
            }
        }
        C.due(told + " rounds told, " + longOnes + " long ones", told >= 20 && longOnes >= 5, true);
    }

    private static BeatBench crowd(long seed) {
        Random chance = new Random(seed);
        BeatBench x = new BeatBench();
        x.sheet(0, 2, 16);
        for (int k = 0; k < 16; k++) x.write(0, k, chance.nextInt(seed % 2 == 0 ? 4 : 600));
        x.push(0, 1 + chance.nextInt(16));
        x.ring(seed % 3 == 0 ? 4096 : 900 + chance.nextInt(3197));
        int many = 2 + chance.nextInt(23);
        for (int k = 0; k < many; k++) x.beater(chance.nextInt(4), chance.nextInt(x.count(1)));
        int roads = chance.nextInt(6) == 0 ? 150 : chance.nextInt(40);
        for (int k = 0; k < roads; k++) x.road(chance.nextInt(many), chance.nextInt(many), true);
        return x;
    }

    private static String stateAt(long seed, int ticks) {
        BeatBench x = crowd(seed);
        C.yes(x, "go(" + ticks + ")", x.go(ticks));
        int[] phases = new int[x.count(2)];
        for (int k = 0; k < phases.length; k++) phases[k] = x.beats(k, 0);
        return Arrays.toString(phases);
    }

    private static void holdRound(long seed, int lead, int round) {
        String where = "seed " + seed + ", LEAD " + lead + ", ROUND " + round + ": ";
        C.due(where + "at most 20,000", lead + round <= MOST_TICKS, true);
        String first = stateAt(seed, lead);
        C.due(where + "the same", stateAt(seed, lead + round).equals(first), true);
        if (lead > 0) {
            C.due(where + "not one TICK sooner", stateAt(seed, lead + round - 1).equals(stateAt(seed, lead - 1)), false);
        }
        for (int p = 2; p <= round; p++) {
            boolean prime = true;
            for (int d = 2; d * d <= p; d++) prime &= p % d != 0;
            if (prime && round % p == 0) {
                C.due(where + "not by " + p, stateAt(seed, lead + round / p).equals(first), false);
            }
        }
    }

    /** Two FIRING ones of a ring of 2,500 that push each other once a round by 1,700, so in 800; and PLAIN ones. */
    private static BeatBench pair(int... more) {
        BeatBench x = new BeatBench();
        x.sheet(0, 2, 1);
        x.write(0, 0, 1700);
        x.push(0, 1);
        x.ring(2500);
        x.beater(FIRING, 2499);
        x.beater(FIRING, 299);
        x.road(0, 1, true);
        x.road(1, 0, true);
        for (int phase : more) x.beater(PLAIN, phase);
        return x;
    }

    private static void spent() {
        C.about("SPENT (10) if both together are above 20,000.");
        round(pair(), 0, 800);
        // 800 and 2,500 have 20,000 in common first.
        round(pair(7), 0, 20_000);
        // One that is 2 behind a PLAIN one it SEES is 1 behind from the first TICK on: LEAD 1 and ROUND 20,000.
        BeatBench x = pair(7);
        x.beater(PULLED, 5);
        x.road(3, 2, true);
        C.none(x, "round(0)", x.round(0), 10);
        C.none(x, "round(1)", x.round(1), 10);
        x.go(1);
        round(x, 0, 20_000);
    }

    /** A ROUND of 4,096 behind a long LEAD: no STATE is left out of both together. */
    private static void spentByLead() {
        C.about("if both together are above 20,000.");
        int within = 0;
        int beyond = 0;
        for (int push = 1; push <= 4; push++) {
            for (int phase = 300; phase < 4000; phase += 300) {
                BeatBench x = follower(push, phase);
                int ticks = ticksToEnd(push, phase);
                if (ticks + 4096 <= MOST_TICKS) {
                    within++;
                    round(x, ticks, 4096);
                } else {
                    beyond++;
                    C.none(x, "round(0) of " + push + " and " + phase, x.round(0), 10);
                    goFar(x, ticks + 4096 - MOST_TICKS - 1);
                    C.none(x, "round(0) of LEAD " + (MOST_TICKS - 4095), x.round(0), 10);
                    C.none(x, "round(1)", x.round(1), 10);
                    x.go(1);
                    round(x, MOST_TICKS - 4096, 4096);
                    x.go(MOST_TICKS - 4096);
                    round(x, 0, 4096);
                }
            }
        }
        C.due(within + " within, " + beyond + " beyond", within > 0 && beyond > 0, true);
    }

    private static void goFar(BeatBench x, int ticks) {
        for (int rest = ticks; rest > 0; rest -= MOST_TICKS) C.yes(x, "go", x.go(Math.min(rest, MOST_TICKS)));
    }

    /** A FIRING one that SEES another one, which it is pushed nearer to once a round, till it is taken along. */
    private static BeatBench follower(int push, int phase) {
        BeatBench x = new BeatBench();
        x.sheet(0, 2, 1);
        x.write(0, 0, 300 * push);
        x.push(0, 1);
        x.ring(4096);
        x.beater(FIRING, 0);
        x.beater(FIRING, phase);
        x.road(1, 0, true);
        return x;
    }

    /** The first TICK at which both of follower() are IN STEP: from then on nothing but a ROUND of 4,096. */
    private static int ticksToEnd(int push, int phase) {
        int led = phase;
        for (int t = 1; t < 100_000; t++) {
            led = (led + 1) % 4096;
            if (t % 4096 == 0 && led != 0) {
                led += 300 * push;
                led = led >= 4096 ? 0 : led;
            }
            if (t % 4096 == led) return t;
        }
        return -1;
    }

    // ---- SMALL benches

    private static void small() {
        C.about("A SMALL bench has RING to the power of how many BEATERS there are at most 20,736");
        // 20,736 is 144 by 144 and 12 to the power of 4; then the greatest below it and the least above it.
        int[][] smallOnes = {{144, 2}, {12, 4}, {143, 2}, {27, 3}, {11, 4}, {7, 5}, {5, 6}, {4, 7}, {3, 9}, {2, 14}, {4096, 1}};
        for (int[] s : smallOnes) {
            BeatBench x = bench(s[0], new int[s[1]]);
            int states = (int) Math.pow(s[0], s[1]);
            C.due(x, "ends() of " + s[0] + " and " + s[1], x.ends(), states / s[0], 0);
            C.due(x, "sure(1)", x.sure(1), states, 0);
        }
        int[][] others = {{145, 2}, {13, 4}, {28, 3}, {8, 5}, {6, 6}, {5, 7}, {4, 8}, {3, 10}, {2, 15}, {4096, 2}, {2, 24},
            {4096, 24}, {256, 4}, {65, 16}};
        for (int[] s : others) {
            BeatBench x = bench(s[0], new int[s[1]]);
            C.none(x, "ends() of " + s[0] + " and " + s[1], x.ends(), 5);
            C.none(x, "sure(1)", x.sure(1), 5);
        }
    }

    private static void oneAtLeast() {
        C.about("(one at least).");
        for (int ring : new int[] {2, 12, 4096}) {
            BeatBench x = bench(ring);
            C.none(x, "ends() of none", x.ends(), 5);
            C.none(x, "sure(0) of none", x.sure(0), 5);
            x.beater(FIRING, 1);
            C.due(x, "ends() of one", x.ends(), 1, 0);
            C.due(x, "sure(0) of one", x.sure(0), ring, 0);
        }
    }

    private static void end(BeatBench x, int k, int least, int states, int basin) {
        C.due(x, "end(" + k + ", 0)", x.end(k, 0), least, 0);
        C.due(x, "end(" + k + ", 1)", x.end(k, 1), states, 0);
        C.due(x, "end(" + k + ", 2)", x.end(k, 2), basin, 0);
    }

    /**
     * Of a ring of 6 a PULLED one that SEES a PLAIN one, 0 to 3 behind it or 1 or 2 ahead of it, comes to be 0 or 1
     * behind (from 1, 2 and 3) or 1 ahead (from 1 and 2): so each END tells which PHASE counts once and which 6 times.
     */
    private static void stateNumbers() {
        C.about("Its STATES are numbered: PHASE 0, and RING times PHASE 1, and so on.");
        BeatBench x = bench(6, PULLED, PLAIN);
        x.road(0, 1, true);
        C.due(x, "ends()", x.ends(), 3, 0);
        end(x, 0, 0, 6, 6);
        end(x, 1, 1, 6, 12);
        end(x, 2, 5, 6, 18);
        BeatBench y = bench(6, PLAIN, PULLED);
        y.road(1, 0, true);
        C.due(y, "ends()", y.ends(), 3, 0);
        end(y, 0, 0, 6, 6);
        end(y, 1, 1, 6, 18);
        end(y, 2, 5, 6, 12);
        // Three: 0 PULLED to 2, 1 on its own; an END of PHASES p, q and 0 has p and 6 q as its least STATE.
        BeatBench z = bench(6, PULLED, PLAIN, PLAIN);
        z.road(0, 2, true);
        C.due(z, "ends()", z.ends(), 18, 0);
        for (int q = 0; q < 6; q++) {
            end(z, 3 * q, 6 * q, 6, 6);
            end(z, 3 * q + 1, 6 * q + 1, 6, 12);
            end(z, 3 * q + 2, 6 * q + 5, 6, 18);
        }
    }

    private static void comingRound() {
        C.about("ENDS: sets of STATES that come round; numbered by their least STATES.");
        // Three PULLED ones that SEE one another in a round rest where each is 2 ahead: (0, 2, 4) is 156, ..
        BeatBench x = bench(6, PULLED, PULLED, PULLED);
        x.roads(2);
        int ends = x.ends();
        int before = -1;
        int states = 0;
        int rests = 0;
        for (int k = 0; k < ends; k++) {
            int least = x.end(k, 0);
            C.due("least STATE of END " + k, least > before, true);
            before = least;
            states += x.end(k, 2);
            rests += x.end(k, 1) == 1 ? 1 : 0;
            turn(x, least % 6, least / 6 % 6, least / 36);
            round(x, 0, x.end(k, 1));
        }
        C.due("STATES of all BASINS", states, 216);
        C.due("STATES at rest", rests, 6);
        turn(x, 0, 2, 4);
        round(x, 0, 1);
        C.none(x, "end(" + ends + ", 0)", x.end(ends, 0), 8);
        // One END alone, of all STATES, and the most ENDS that a plain bench has.
        BeatBench one = bench(4096, HELD);
        C.due(one, "ends()", one.ends(), 1, 0);
        end(one, 0, 0, 4096, 4096);
        BeatBench most = bench(2, new int[14]);
        C.due(most, "ends()", most.ends(), 8192, 0);
        end(most, 0, 0, 2, 2);
        end(most, 8191, 8191, 2, 2);
    }

    private static void basins() {
        C.about("BASIN: how many STATES come to one.");
        // A FIRING pair of a ring of 4 pushed by 2: all come IN STEP but (3, 0) and (0, 3), which change places.
        BeatBench x = bench(4, FIRING, FIRING);
        x.sheet(0, 1, 1);
        x.write(0, 0, 2);
        x.push(0, 1);
        x.roads(1);
        C.due(x, "ends()", x.ends(), 2, 0);
        end(x, 0, 0, 4, 14);
        end(x, 1, 3, 2, 2);
        x.write(0, 0, 4096);
        x.push(0, 1);
        C.due(x, "ends(), pushed by 4,096", x.ends(), 1, 0);
        end(x, 0, 0, 4, 16);
        x.write(0, 0, 0);
        x.push(0, 1);
        C.due(x, "ends(), pushed by 0", x.ends(), 4, 0);
        for (int k = 0; k < 4; k++) end(x, k, k, 4, 4);
    }

    // ---- LEAD

    private static void lead(BeatBench x, int... due) {
        C.due(x, "lead()", x.lead(), due.length, 0);
        for (int k = 0; k < due.length; k++) C.due(x, "leader(" + k + ")", x.leader(k), due[k], 0);
        C.none(x, "leader(" + due.length + ")", x.leader(due.length), 8);
    }

    private static BeatBench seeing(int many, int... roads) {
        BeatBench x = bench(12, new int[many]);
        for (int k = 0; k + 1 < roads.length; k += 2) x.road(roads[k], roads[k + 1], true);
        return x;
    }

    private static void leads() {
        C.about("LEAD: the least set of BEATERS such that each other one leads, over ROADS (each from one to one that it "
            + "SEES), to one of them;");
        lead(seeing(1), 0);
        lead(seeing(1, 0, 0), 0);
        lead(seeing(2), 0, 1);
        lead(seeing(2, 0, 0, 1, 1), 0, 1);
        // A ROAD goes from one to one that it SEES.
        lead(seeing(2, 0, 1), 1);
        lead(seeing(2, 1, 0), 0);
        lead(seeing(3, 0, 1, 1, 2), 2);
        lead(seeing(3, 2, 1, 1, 0), 0);
        lead(seeing(3, 1, 0, 0, 2), 2);
        lead(seeing(3, 0, 1, 0, 2), 1, 2);
        lead(seeing(3, 1, 0, 2, 0), 0);
        lead(seeing(5, 0, 4, 1, 4, 2, 3), 3, 4);
        BeatBench all = bench(12, new int[24]);
        lead(all, 0, 1, 2, 3, 4, 5, 6, 7, 8, 9, 10, 11, 12, 13, 14, 15, 16, 17, 18, 19, 20, 21, 22, 23);
        for (int k = 0; k < 23; k++) all.road(k, 23, true);
        lead(all, 23);
    }

    private static void leastNumbers() {
        C.about("of these that with the least numbers: for each heap of BEATERS that lead to one another, and lead to no "
            + "others, the least one.");
        lead(seeing(2, 0, 1, 1, 0), 0);
        lead(seeing(4, 3, 2, 2, 1, 1, 3), 0, 1);
        // 0 and 1 lead to one another, and to 2: only 2 leads to no others.
        lead(seeing(3, 0, 1, 1, 0, 1, 2), 2);
        lead(seeing(3, 0, 1, 1, 0, 0, 2), 2);
        lead(seeing(3, 1, 2, 2, 1, 0, 2), 1);
        lead(seeing(3, 1, 2, 2, 1, 2, 0), 0);
        lead(seeing(6, 0, 5, 5, 3, 3, 5, 1, 2, 2, 4, 4, 1), 1, 3);
        BeatBench round = bench(12, new int[24]);
        round.roads(2);
        lead(round, 0);
        round.road(0, 23, false);
        lead(round, 0);
        round.roads(3);
        lead(round, 0);
        round.roads(1);
        lead(round, 0);
        for (int k = 0; k < 24; k++) round.road(0, k, false);
        for (int k = 1; k < 24; k++) round.road(k, 0, false);
        lead(round, 0, 1);
    }
}
