import java.util.Arrays;
import java.util.NoSuchElementException;

/**
 * A bench for beaters that go round a ring of parts, and a table of spans for beats led by greatest sums.
 * The face asks each call's STATUS in the document's order; the classes inside do the work behind it.
 */
public final class BeatBench {
    public static final int NONE = -1;

    private static final int FINE = 0;
    private static final int NO_SHEET = 1;
    private static final int CANT_BE = 2;
    private static final int MISSING = 3;
    private static final int NO_PLACE = 4;
    private static final int NOT_SMALL = 5;
    private static final int BELOW_ZERO = 6;
    private static final int TOO_MANY = 7;
    private static final int NONE_THERE = 8;
    private static final int ABOVE_ZERO = 9;
    private static final int SPENT = 10;
    private static final int UNLIKE_SORTS = 11;

    private static final int SHEETS = 4;
    private static final int SORTS = 4;
    private static final int LONGEST_SHEET = 100;
    private static final int MOST_BEATERS = 24;
    private static final int KINDS = 4;
    private static final int PULLED = 1;
    private static final int FIRING = 2;
    private static final int LEAST_RING = 2;
    private static final int GREATEST_RING = 4096;
    private static final int LONGEST_PUSH_TABLE = 16;
    private static final int GREATEST_PUSH = 4096;
    private static final int MOST_TICKS = 20_000;
    private static final int MOST_STATES = 20_736;
    private static final int WIDEST_TABLE = 10;
    private static final int GREATEST_SPAN = 1_048_576;
    private static final long MOST_ROADS = 1_000_000_000_000L;

    private int status = FINE;
    private final Sheet[] sheets = new Sheet[SHEETS];
    private final Bench bench = new Bench();
    private final Trail trail = new Trail();
    private final Ends kept = new Ends();
    private final Spans spans = new Spans();
    private final int[] leaders = new int[MOST_BEATERS];
    private int leadersKept = 0;
    private final int[] outBytes = new int[WIDEST_TABLE];
    private int outLength = 0;

    public BeatBench() {
        for (int k = 0; k < sheets.length; k++) {
            sheets[k] = new Sheet();
        }
    }

    public int status() {
        return status;
    }

    // ---- SHEETS

    public boolean sheet(int sheet, int sort, int many) {
        Sheet made = sheetAt(sheet);
        if (made == null || sort < 0 || sort >= SORTS) {
            return refuse(NO_SHEET);
        }
        if (many > LONGEST_SHEET) {
            return refuse(CANT_BE);
        }
        if (many < 0) {
            return refuse(BELOW_ZERO);
        }
        made.make(sort, many);
        return accept();
    }

    public boolean write(int sheet, int place, long v) {
        Sheet to = sheetAt(sheet);
        if (to == null) {
            return refuse(NO_SHEET);
        }
        if (to.isMissing()) {
            return refuse(MISSING);
        }
        if (!to.hasPlaces(place, 1)) {
            return refuse(NO_PLACE);
        }
        to.put(place, v);
        return accept();
    }

    public long read(int sheet, int place) {
        Sheet from = sheetAt(sheet);
        if (from == null) {
            return lack(NO_SHEET);
        }
        if (from.isMissing()) {
            return lack(MISSING);
        }
        if (!from.hasPlaces(place, 1)) {
            return lack(NO_PLACE);
        }
        status = FINE;
        return from.at(place);
    }

    public boolean pour(int sheet, int i, int to, int j, int many) {
        Sheet from = sheetAt(sheet);
        Sheet into = sheetAt(to);
        if (from == null || into == null) {
            return refuse(NO_SHEET);
        }
        if (from.isMissing() || into.isMissing()) {
            return refuse(MISSING);
        }
        if (from.sort != into.sort) {
            return refuse(UNLIKE_SORTS);
        }
        if (many < 0) {
            return refuse(BELOW_ZERO);
        }
        if (!from.hasPlaces(i, many) || !into.hasPlaces(j, many)) {
            return refuse(NO_PLACE);
        }
        System.arraycopy(from.cells, i, into.cells, j, many);
        return accept();
    }

    // ---- the bench

    public boolean ring(int parts) {
        if (parts < LEAST_RING || parts > GREATEST_RING) {
            return refuse(CANT_BE);
        }
        bench.empty(parts);
        return accept();
    }

    public int beater(int kind, int phase) {
        if (!isKind(kind) || !bench.isPhase(phase)) {
            return lack(CANT_BE);
        }
        if (bench.many >= MOST_BEATERS) {
            return lack(TOO_MANY);
        }
        return answer(bench.add(kind, phase));
    }

    public boolean kind(int beater, int kind) {
        if (!bench.has(beater) || !isKind(kind)) {
            return refuse(CANT_BE);
        }
        bench.kinds[beater] = kind;
        return accept();
    }

    public boolean turn(int beater, int phase) {
        if (!bench.has(beater) || !bench.isPhase(phase)) {
            return refuse(CANT_BE);
        }
        bench.phases[beater] = phase;
        return accept();
    }

    public boolean phases(int sheet) {
        Sheet from = sheetAt(sheet);
        if (from == null) {
            return refuse(NO_SHEET);
        }
        if (from.isMissing()) {
            return refuse(MISSING);
        }
        if (!from.hasPlaces(0, bench.many)) {
            return refuse(NO_PLACE);
        }
        if (!from.liesWithin(bench.many, bench.ring - 1)) {
            return refuse(CANT_BE);
        }
        from.copyInts(bench.phases, bench.many);
        return accept();
    }

    public boolean road(int a, int b, boolean on) {
        if (!bench.has(a) || !bench.has(b)) {
            return refuse(CANT_BE);
        }
        bench.setRoad(a, b, on);
        return accept();
    }

    public boolean roads(int what) {
        if (what < 0 || what > 3) {
            return refuse(CANT_BE);
        }
        bench.setRoads(what);
        return accept();
    }

    public boolean push(int sheet, int many) {
        Sheet from = sheetAt(sheet);
        if (from == null) {
            return refuse(NO_SHEET);
        }
        if (from.isMissing()) {
            return refuse(MISSING);
        }
        if (many < 1 || many > LONGEST_PUSH_TABLE) {
            return refuse(CANT_BE);
        }
        if (!from.hasPlaces(0, many)) {
            return refuse(NO_PLACE);
        }
        if (!from.liesWithin(many, GREATEST_PUSH)) {
            return refuse(CANT_BE);
        }
        from.copyInts(bench.pushes, many);
        bench.pushMany = many;
        return accept();
    }

    public boolean clear() {
        bench.ticks = 0;
        Arrays.fill(bench.beats, 0);
        return accept();
    }

    public boolean go(int ticks) {
        if (ticks < 0 || ticks > MOST_TICKS) {
            return refuse(CANT_BE);
        }
        for (int t = 0; t < ticks; t++) {
            bench.tick(bench.phases, bench.beats);
        }
        bench.ticks += ticks;
        return accept();
    }

    public int count(int what) {
        switch (what) {
            case 0:
                return answer(bench.ticks);
            case 1:
                return answer(bench.ring);
            case 2:
                return answer(bench.many);
            case 3:
                return answer(bench.allRoads());
            default:
                return lack(CANT_BE);
        }
    }

    public int beats(int beater, int what) {
        if (!bench.has(beater)) {
            return lack(CANT_BE);
        }
        switch (what) {
            case 0:
                return answer(bench.phases[beater]);
            case 1:
                return answer(bench.beats[beater]);
            case 2:
                return answer(bench.kinds[beater]);
            case 3:
                return answer(Integer.bitCount(bench.sees[beater]));
            default:
                return lack(CANT_BE);
        }
    }

    public int step(int set) {
        if (!bench.isSet(set)) {
            return lack(CANT_BE);
        }
        return answer(bench.inStep(bench.phases, set) ? 1 : 0);
    }

    public int arc(int set) {
        if (!bench.isSet(set) || set == 0) {
            return lack(CANT_BE);
        }
        return answer(bench.leastArc(set));
    }

    public int round(int what) {
        if (what < 0 || what > 1) {
            return lack(CANT_BE);
        }
        if (bench.many == 0) {
            return lack(NONE_THERE);
        }
        bench.startWalk();
        trail.start(bench.many);
        for (int t = 0; t <= MOST_TICKS; t++) {
            int before = trail.stepOf(bench.walker, bench.many);
            if (before != NONE) {
                return answer(what == 0 ? before : t - before);
            }
            bench.walk();
        }
        return lack(SPENT);
    }

    public int meet(int set) {
        if (!bench.isSet(set)) {
            return lack(CANT_BE);
        }
        bench.startWalk();
        trail.start(bench.many);
        for (int t = 0; t <= MOST_TICKS; t++) {
            if (bench.inStep(bench.walker, set)) {
                return answer(t);
            }
            if (trail.stepOf(bench.walker, bench.many) != NONE) {
                return lack(NONE_THERE);
            }
            bench.walk();
        }
        return lack(SPENT);
    }

    public int ends() {
        int states = bench.smallStates();
        if (states == 0) {
            return lack(NOT_SMALL);
        }
        kept.follow(bench, states);
        kept.keep(states);
        return answer(kept.many);
    }

    public int end(int k, int what) {
        if (what < 0 || what > 2) {
            return lack(CANT_BE);
        }
        if (k < 0 || k >= kept.many) {
            return lack(NONE_THERE);
        }
        return answer(kept.tell(k, what));
    }

    public int sure(int set) {
        if (!bench.isSet(set)) {
            return lack(CANT_BE);
        }
        int states = bench.smallStates();
        if (states == 0) {
            return lack(NOT_SMALL);
        }
        kept.follow(bench, states);
        return answer(kept.statesInStep(bench, states, set));
    }

    public int lead() {
        if (bench.many == 0) {
            return lack(NONE_THERE);
        }
        leadersKept = bench.findLeaders(leaders);
        return answer(leadersKept);
    }

    public int leader(int k) {
        if (k < 0 || k >= leadersKept) {
            return lack(NONE_THERE);
        }
        return answer(leaders[k]);
    }

    // ---- greatest sums

    public boolean table(int size) {
        if (size < 0 || size > WIDEST_TABLE) {
            return refuse(CANT_BE);
        }
        spans.empty(size);
        return accept();
    }

    public boolean span(int i, int j, int v) {
        if (!spans.has(i, j) || v < -GREATEST_SPAN || v > GREATEST_SPAN) {
            return refuse(CANT_BE);
        }
        spans.put(i, j, v);
        return accept();
    }

    public boolean cut(int i, int j) {
        if (!spans.has(i, j)) {
            return refuse(CANT_BE);
        }
        if (!spans.remove(i, j)) {
            return refuse(NONE_THERE);
        }
        return accept();
    }

    public long pace(int what) {
        if (what < 0 || what > 1) {
            return lack(CANT_BE);
        }
        if (!spans.findPace()) {
            return lack(NONE_THERE);
        }
        status = FINE;
        return what == 0 ? spans.upper : spans.lower;
    }

    public int critical() {
        if (!spans.findPace()) {
            return lack(NONE_THERE);
        }
        outLength = spans.traceCritical(outBytes);
        return answer(outLength);
    }

    public long sums(long n, int i, int j) {
        if (n < 0 || n > MOST_ROADS || !spans.has(i, j)) {
            return lack(CANT_BE);
        }
        return sumOrNone(spans.sumOf(n, i, j));
    }

    public long longest(int i, int j) {
        if (!spans.has(i, j)) {
            return lack(CANT_BE);
        }
        long sum = spans.longestSum(i, j);
        if (sum != Spans.NO_SPAN && spans.findPace() && spans.upper > 0) {
            return lack(ABOVE_ZERO);
        }
        return sumOrNone(sum);
    }

    public int again(int what) {
        if (what < 0 || what > 1) {
            return lack(CANT_BE);
        }
        if (!spans.findPace()) {
            return lack(NONE_THERE);
        }
        if (!spans.findAgain()) {
            return lack(SPENT);
        }
        return answer(what == 0 ? spans.againLead : spans.againRound);
    }

    public int out(int k) throws NoSuchElementException {
        if (k < 0 || k >= outLength) {
            throw new NoSuchElementException("OUT has no such byte");
        }
        return outBytes[k];
    }

    // ---- how a call ends

    private boolean accept() {
        status = FINE;
        return true;
    }

    private boolean refuse(int fault) {
        status = fault;
        return false;
    }

    private int answer(int value) {
        status = FINE;
        return value;
    }

    private int lack(int fault) {
        status = fault;
        return NONE;
    }

    private long sumOrNone(long sum) {
        status = sum == Spans.NO_SPAN ? NONE_THERE : FINE;
        return sum == Spans.NO_SPAN ? NONE : sum;
    }

    // ---- what many calls ask first

    private Sheet sheetAt(int number) {
        return number >= 0 && number < sheets.length ? sheets[number] : null;
    }

    private static boolean isKind(int kind) {
        return kind >= 0 && kind < KINDS;
    }

    /** A row of numbers of one sort. */
    private static final class Sheet {
        private static final int NOT_MADE = -1;

        private int sort = 0;
        private int length = NOT_MADE;
        private final long[] cells = new long[LONGEST_SHEET];

        boolean isMissing() {
            return length == NOT_MADE;
        }

        void make(int newSort, int many) {
            sort = newSort;
            length = many;
            Arrays.fill(cells, 0L);
        }

        // In longs: place and many may be any ints, and their sum must not wrap.
        boolean hasPlaces(int place, int many) {
            return place >= 0 && many >= 0 && (long) place + many <= length;
        }

        long at(int place) {
            return hasPlaces(place, 1) ? cells[place] : 0L;
        }

        void put(int place, long v) {
            if (hasPlaces(place, 1)) {
                cells[place] = cutToSort(v);
            }
        }

        private long cutToSort(long v) {
            switch (sort) {
                case 0:
                    return (byte) v;
                case 1:
                    return (short) v;
                case 2:
                    return (int) v;
                default:
                    return v;
            }
        }

        /** Whether the first numbers lie from 0 to the greatest one. */
        boolean liesWithin(int many, long greatest) {
            for (int k = 0; k < many; k++) {
                long v = at(k);
                if (v < 0 || v > greatest) {
                    return false;
                }
            }
            return true;
        }

        void copyInts(int[] into, int many) {
            for (int k = 0; k < many && k < into.length; k++) {
                into[k] = (int) at(k);
            }
        }
    }

    /** The ring, its beaters, their roads and the push table; sets and roads are masks with a bit for each beater. */
    private static final class Bench {
        private int ring = 12;
        private int many = 0;
        private int ticks = 0;
        private final int[] kinds = new int[MOST_BEATERS];
        private final int[] phases = new int[MOST_BEATERS];
        private final int[] beats = new int[MOST_BEATERS];
        private final int[] sees = new int[MOST_BEATERS];
        private final int[] pushes = new int[LONGEST_PUSH_TABLE];
        private int pushMany = 1;
        private final int[] next = new int[MOST_BEATERS];
        private final int[] line = new int[MOST_BEATERS];
        private final int[] reach = new int[MOST_BEATERS];
        // A second state and a tally nobody reads, so that looking ahead leaves the bench as it is.
        private final int[] walker = new int[MOST_BEATERS];
        private final int[] walkerBeats = new int[MOST_BEATERS];

        Bench() {
            pushes[0] = 1;
        }

        void empty(int parts) {
            ring = parts;
            many = 0;
        }

        int add(int kind, int phase) {
            if (many >= MOST_BEATERS) {
                return NONE;
            }
            kinds[many] = kind;
            phases[many] = phase;
            beats[many] = 0;
            sees[many] = 0;
            many++;
            return many - 1;
        }

        boolean has(int beater) {
            return beater >= 0 && beater < many;
        }

        boolean isPhase(int phase) {
            return phase >= 0 && phase < ring;
        }

        boolean isSet(int set) {
            return (set & ~everyone()) == 0;
        }

        private int everyone() {
            return (1 << many) - 1;
        }

        private static boolean holds(int set, int beater) {
            return (set >> beater & 1) != 0;
        }

        // ---- roads

        void setRoad(int a, int b, boolean on) {
            sees[a] = on ? sees[a] | 1 << b : sees[a] & ~(1 << b);
        }

        void setRoads(int what) {
            for (int k = 0; k < many; k++) {
                int ahead = 1 << (k == 0 ? many - 1 : k - 1);
                int behind = 1 << (k == many - 1 ? 0 : k + 1);
                switch (what) {
                    case 1:
                        sees[k] = everyone() & ~(1 << k);
                        break;
                    case 2:
                        sees[k] = ahead;
                        break;
                    case 3:
                        sees[k] = ahead | behind;
                        break;
                    default:
                        sees[k] = 0;
                        break;
                }
            }
        }

        int allRoads() {
            int sum = 0;
            for (int k = 0; k < many; k++) {
                sum += Integer.bitCount(sees[k]);
            }
            return sum;
        }

        /** The least one of each heap that leads to no other heap, by number; how many they are. */
        int findLeaders(int[] into) {
            fillReach();
            int found = 0;
            for (int k = 0; k < many && found < into.length; k++) {
                boolean least = Integer.numberOfTrailingZeros(reach[k]) == k;
                if (least && allLeadBack(k)) {
                    into[found] = k;
                    found++;
                }
            }
            return found;
        }

        private void fillReach() {
            for (int k = 0; k < many; k++) {
                reach[k] = sees[k] | 1 << k;
            }
            for (int over = 0; over < many; over++) {
                for (int k = 0; k < many; k++) {
                    if (holds(reach[k], over)) {
                        reach[k] |= reach[over];
                    }
                }
            }
        }

        private boolean allLeadBack(int beater) {
            for (int k = 0; k < many; k++) {
                if (holds(reach[beater], k) && !holds(reach[k], beater)) {
                    return false;
                }
            }
            return true;
        }

        // ---- ticks

        /** One TICK of the state in a row; beats are counted in the tally. */
        void tick(int[] at, int[] tally) {
            boolean anyBeats = false;
            for (int k = 0; k < many; k++) {
                if (kinds[k] == FIRING) {
                    next[k] = at[k] + 1;
                    anyBeats |= next[k] >= ring;
                } else if (kinds[k] == PULLED) {
                    next[k] = wrap(at[k] + 1 + pullOn(k, at));
                } else {
                    next[k] = wrap(at[k] + 1);
                }
            }
            if (anyBeats) {
                fire(tally);
            }
            System.arraycopy(next, 0, at, 0, many);
        }

        // A pull is less than half a ring either way, so one ring more or less is enough.
        private int wrap(int phase) {
            if (phase >= ring) {
                return phase - ring;
            }
            return phase < 0 ? phase + ring : phase;
        }

        private int pullOn(int beater, int[] at) {
            int seen = sees[beater] & ~(1 << beater);
            int mine = at[beater];
            int sum = 0;
            int parts = 1;
            // The dearest lines of a long go(): no call is made in them.
            for (int k = 0; k < many; k++) {
                if ((seen >> k & 1) != 0) {
                    int ahead = at[k] - mine;
                    if (2 * ahead > ring) {
                        ahead -= ring;
                    } else if (2 * ahead <= -ring) {
                        ahead += ring;
                    }
                    sum += ahead;
                    parts++;
                }
            }
            return parts > 1 ? sum / parts : 0;
        }

        private void fire(int[] tally) {
            int last = 0;
            int lined = 0;
            for (int k = 0; k < many; k++) {
                if (kinds[k] == FIRING && next[k] >= ring) {
                    line[last] = k;
                    last++;
                    lined |= 1 << k;
                }
            }
            // No beater is lined twice, so the line never has more than all of them.
            for (int first = 0; first < last && first < many; first++) {
                int beater = line[first];
                next[beater] = 0;
                tally[beater]++;
                for (int k = 0; k < many; k++) {
                    boolean pushed = kinds[k] == FIRING && !holds(lined, k) && holds(sees[k], beater);
                    if (pushed) {
                        next[k] += pushAt(next[k]);
                    }
                    if (pushed && next[k] >= ring && last < line.length) {
                        line[last] = k;
                        last++;
                        lined |= 1 << k;
                    }
                }
            }
        }

        private int pushAt(int phase) {
            int i = ring > 0 ? phase * pushMany / ring : 0;
            return i >= 0 && i < pushes.length ? pushes[i] : 0;
        }

        // ---- states

        void startWalk() {
            System.arraycopy(phases, 0, walker, 0, many);
        }

        void walk() {
            tick(walker, walkerBeats);
        }

        boolean inStep(int[] at, int set) {
            int phase = NONE;
            for (int k = 0; k < many; k++) {
                if (holds(set, k)) {
                    if (phase != NONE && phase != at[k]) {
                        return false;
                    }
                    phase = at[k];
                }
            }
            return true;
        }

        // The least arc that begins at one of them: a least one always does.
        int leastArc(int set) {
            int least = ring;
            for (int k = 0; k < many; k++) {
                if (holds(set, k)) {
                    least = Math.min(least, arcFrom(phases[k], set));
                }
            }
            return least;
        }

        private int arcFrom(int phase, int set) {
            int farthest = 0;
            for (int k = 0; k < many; k++) {
                if (holds(set, k)) {
                    farthest = Math.max(farthest, wrap(phases[k] - phase));
                }
            }
            return farthest;
        }

        /** How many states a SMALL bench has; 0 if the bench is not SMALL. */
        int smallStates() {
            int states = many > 0 ? 1 : 0;
            for (int k = 0; k < many; k++) {
                states *= ring;
                if (states > MOST_STATES) {
                    return 0;
                }
            }
            return states;
        }

        int stateAfter(int state) {
            setWalker(state);
            walk();
            int number = 0;
            for (int k = many - 1; k >= 0; k--) {
                number = number * ring + walker[k];
            }
            return number;
        }

        boolean stateInStep(int state, int set) {
            setWalker(state);
            return inStep(walker, set);
        }

        private void setWalker(int state) {
            int rest = state;
            for (int k = 0; k < many && ring > 0; k++) {
                walker[k] = rest % ring;
                rest /= ring;
            }
        }
    }

    /** The states that a walk has come through, so that the first one that comes again is told at once. */
    private static final class Trail {
        private static final int HEADS = 4096;
        private static final int HEAD_SHIFT = 52;
        private static final int PHASE_BITS = 12;
        private static final int PHASES_A_WORD = 5;
        private static final int FIRST_ROOM = 64;
        private static final long MIXER = 0x9E3779B97F4A7C15L;

        // Made by the first walk alone and used again: most objects never walk far.
        private int[] heads = new int[0];
        private int[] links = new int[0];
        private long[] words = new long[0];
        private int wordsAStep = 0;
        private int length = 0;

        void start(int beaters) {
            wordsAStep = (beaters + PHASES_A_WORD - 1) / PHASES_A_WORD;
            length = 0;
            if (heads.length < HEADS) {
                heads = new int[HEADS];
            }
            Arrays.fill(heads, NONE);
        }

        /** The step that had this state; NONE if no step had it: then it is the next step's. */
        int stepOf(int[] at, int beaters) {
            if (length > MOST_TICKS) {
                return NONE;
            }
            makeRoom();
            pack(at, beaters);
            int head = headOfLast();
            int step = heads[head];
            for (int tries = 0; tries < length && step >= 0 && step < length; tries++) {
                if (isLikeLast(step)) {
                    return step;
                }
                step = links[step];
            }
            links[length] = heads[head];
            heads[head] = length;
            length++;
            return NONE;
        }

        private void makeRoom() {
            if (links.length <= length) {
                links = Arrays.copyOf(links, Math.min(MOST_TICKS + 1, 2 * length + FIRST_ROOM));
            }
            int needed = (length + 1) * wordsAStep;
            if (words.length < needed) {
                words = Arrays.copyOf(words, Math.min((MOST_TICKS + 1) * wordsAStep, 2 * needed + FIRST_ROOM));
            }
        }

        private void pack(int[] at, int beaters) {
            int from = length * wordsAStep;
            for (int w = 0; w < wordsAStep; w++) {
                long word = 0L;
                int last = Math.min(beaters, (w + 1) * PHASES_A_WORD);
                for (int k = w * PHASES_A_WORD; k < last; k++) {
                    word = word << PHASE_BITS | at[k];
                }
                words[from + w] = word;
            }
        }

        private int headOfLast() {
            long mixed = 0L;
            int from = length * wordsAStep;
            for (int w = 0; w < wordsAStep; w++) {
                mixed = (mixed ^ words[from + w]) * MIXER;
                mixed ^= mixed >>> 29;
            }
            return (int) (mixed * MIXER >>> HEAD_SHIFT);
        }

        private boolean isLikeLast(int step) {
            int from = step * wordsAStep;
            int last = length * wordsAStep;
            for (int w = 0; w < wordsAStep; w++) {
                if (words[from + w] != words[last + w]) {
                    return false;
                }
            }
            return true;
        }
    }

    /** The ends of a SMALL bench: all states followed, and the ends that the latest ends() found. */
    private static final class Ends {
        private static final int NUMBERS_AN_END = 3;
        private static final int NOT_FOLLOWED = -1;

        private int[] after = new int[0];
        // For each state the least state of its end; while a walk goes on, that walk's mark, below NOT_FOLLOWED.
        private int[] home = new int[0];
        // For the least state of an end, how many states come to it.
        private int[] basin = new int[0];
        private int[] rows = new int[0];
        private int many = 0;

        void follow(Bench bench, int states) {
            makeRoom(states);
            for (int s = 0; s < states; s++) {
                after[s] = bench.stateAfter(s);
            }
            Arrays.fill(home, NOT_FOLLOWED);
            Arrays.fill(basin, 0);
            for (int s = 0; s < states; s++) {
                if (home[s] == NOT_FOLLOWED) {
                    followFrom(s, states);
                }
                int least = home[s];
                if (least >= 0 && least < states) {
                    basin[least]++;
                }
            }
        }

        private void makeRoom(int states) {
            if (after.length < states) {
                int room = Math.max(states, Math.min(MOST_STATES, 2 * after.length));
                after = new int[room];
                home = new int[room];
                basin = new int[room];
            }
        }

        private void followFrom(int start, int states) {
            int mark = NOT_FOLLOWED - 1 - start;
            int s = start;
            for (int n = 0; n < states && home[s] == NOT_FOLLOWED; n++) {
                home[s] = mark;
                s = after[s];
            }
            int least = home[s] == mark ? leastOfRound(s, states) : home[s];
            s = start;
            for (int n = 0; n < states && home[s] == mark; n++) {
                home[s] = least;
                s = after[s];
            }
        }

        private int leastOfRound(int start, int states) {
            int least = start;
            int s = after[start];
            for (int n = 0; n < states && s != start; n++) {
                least = Math.min(least, s);
                s = after[s];
            }
            return least;
        }

        void keep(int states) {
            int found = 0;
            for (int s = 0; s < states; s++) {
                found += home[s] == s ? 1 : 0;
            }
            if (rows.length < found * NUMBERS_AN_END) {
                rows = new int[Math.max(found, Math.min(MOST_STATES, 2 * many)) * NUMBERS_AN_END];
            }
            many = found;
            int row = 0;
            for (int s = 0; s < states && row < found; s++) {
                if (home[s] == s) {
                    rows[row * NUMBERS_AN_END] = s;
                    rows[row * NUMBERS_AN_END + 1] = lengthOfRound(s, states);
                    rows[row * NUMBERS_AN_END + 2] = basin[s];
                    row++;
                }
            }
        }

        private int lengthOfRound(int start, int states) {
            int length = 1;
            for (int s = after[start]; s != start && length < states; s = after[s]) {
                length++;
            }
            return length;
        }

        int tell(int k, int what) {
            int place = k * NUMBERS_AN_END + what;
            return place >= 0 && place < rows.length ? rows[place] : NONE;
        }

        int statesInStep(Bench bench, int states, int set) {
            int sum = 0;
            for (int s = 0; s < states; s++) {
                if (home[s] == s && roundInStep(bench, s, states, set)) {
                    sum += basin[s];
                }
            }
            return sum;
        }

        private boolean roundInStep(Bench bench, int start, int states, int set) {
            int s = start;
            for (int n = 0; n < states; n++) {
                if (!bench.stateInStep(s, set)) {
                    return false;
                }
                s = after[s];
                if (s == start) {
                    return true;
                }
            }
            return true;
        }
    }

    /** The table of spans, in rows of ten: span (i, j) stands at place 10 i + j. */
    private static final class Spans {
        // Far below every sum: 1,000,000,000,000 of the least spans are not below -(2 to the power of 60).
        private static final long NO_SPAN = 1L << 63;
        private static final int CELLS = WIDEST_TABLE * WIDEST_TABLE;
        private static final int FARTHEST_AGAIN = 200;

        private int size = WIDEST_TABLE;
        private final long[] cells = new long[CELLS];
        private long[] power = new long[CELLS];
        private long[] spare = new long[CELLS];
        // The spans times PACE's lower less its upper number: in these every critical round's sum is 0.
        private final long[] shifted = new long[CELLS];
        private long[] row = new long[WIDEST_TABLE];
        private long[] spareRow = new long[WIDEST_TABLE];
        private final long[] back = new long[(WIDEST_TABLE + 1) * WIDEST_TABLE];
        // Made by the first again() alone: it is the largest room here.
        private long[][] orbit = new long[0][0];
        private long upper = 0;
        private long lower = 1;
        private int criticalRoads = 0;
        private int againLead = 0;
        private int againRound = 0;

        Spans() {
            Arrays.fill(cells, NO_SPAN);
        }

        void empty(int newSize) {
            size = newSize;
            Arrays.fill(cells, NO_SPAN);
        }

        boolean has(int i, int j) {
            return i >= 0 && i < size && j >= 0 && j < size;
        }

        private static int place(int i, int j) {
            return i * WIDEST_TABLE + j;
        }

        void put(int i, int j, long v) {
            cells[place(i, j)] = v;
        }

        boolean remove(int i, int j) {
            boolean was = cells[place(i, j)] != NO_SPAN;
            cells[place(i, j)] = NO_SPAN;
            return was;
        }

        // ---- products by greatest sums

        private static long join(long a, long b) {
            return a == NO_SPAN || b == NO_SPAN ? NO_SPAN : a + b;
        }

        /** The product comes into a third row, never into one of the two. */
        private void multiply(long[] a, long[] b, long[] into) {
            Arrays.fill(into, NO_SPAN);
            for (int i = 0; i < size; i++) {
                for (int k = 0; k < size; k++) {
                    long first = a[place(i, k)];
                    if (first != NO_SPAN) {
                        takeBetter(first, b, k, into, i);
                    }
                }
            }
        }

        private void takeBetter(long first, long[] b, int k, long[] into, int i) {
            int from = place(k, 0);
            int to = place(i, 0);
            for (int j = 0; j < size; j++) {
                long second = b[from + j];
                if (second != NO_SPAN && first + second > into[to + j]) {
                    into[to + j] = first + second;
                }
            }
        }

        private void multiplyPower(long[] by) {
            multiply(by, power, spare);
            long[] made = spare;
            spare = power;
            power = made;
        }

        private void startRow(int j) {
            Arrays.fill(row, NO_SPAN);
            row[j] = 0;
        }

        private void multiplyRow(long[] by) {
            for (int i = 0; i < size; i++) {
                long best = NO_SPAN;
                for (int k = 0; k < size; k++) {
                    best = Math.max(best, join(by[place(i, k)], row[k]));
                }
                spareRow[i] = best;
            }
            long[] made = spareRow;
            spareRow = row;
            row = made;
        }

        long sumOf(long n, int i, int j) {
            System.arraycopy(cells, 0, power, 0, CELLS);
            startRow(j);
            for (long rest = n; rest > 0; rest >>= 1) {
                if ((rest & 1) != 0) {
                    multiplyRow(power);
                }
                if (rest > 1) {
                    multiplyPower(power);
                }
            }
            return row[i];
        }

        // Where no round's sum is above 0, a row without a place twice is as good as any.
        long longestSum(int i, int j) {
            startRow(j);
            long best = row[i];
            for (int n = 1; n < size; n++) {
                multiplyRow(cells);
                best = Math.max(best, row[i]);
            }
            return best;
        }

        // ---- pace

        /** Finds PACE and how many roads the shortest critical round has; false if there is no round. */
        boolean findPace() {
            criticalRoads = 0;
            System.arraycopy(cells, 0, power, 0, CELLS);
            for (int n = 1; n <= size; n++) {
                takeRounds(n);
                multiplyPower(cells);
            }
            reducePace();
            return criticalRoads > 0;
        }

        private void takeRounds(int n) {
            for (int i = 0; i < size; i++) {
                long sum = power[place(i, i)];
                // Only a greater mean counts, so that the shortest round stays.
                if (sum != NO_SPAN && (criticalRoads == 0 || sum * lower > upper * n)) {
                    upper = sum;
                    lower = n;
                    criticalRoads = n;
                }
            }
        }

        private void reducePace() {
            for (long d = lower; d > 1; d--) {
                if (upper % d == 0 && lower % d == 0) {
                    upper /= d;
                    lower /= d;
                    return;
                }
            }
        }

        private void shiftByPace() {
            for (int k = 0; k < CELLS; k++) {
                shifted[k] = cells[k] == NO_SPAN ? NO_SPAN : cells[k] * lower - upper;
            }
        }

        /** Writes the places of CRITICAL (behind findPace()); how many they are. */
        int traceCritical(int[] places) {
            shiftByPace();
            for (int p = 0; p < size; p++) {
                fillBack(p);
                if (back[place(criticalRoads, p)] == 0) {
                    writeRound(p, places);
                    return criticalRoads;
                }
            }
            return 0;
        }

        /** For n up to criticalRoads: the greatest shifted sum of n roads from each place to p. */
        private void fillBack(int p) {
            Arrays.fill(back, NO_SPAN);
            back[p] = 0;
            for (int n = 1; n <= criticalRoads; n++) {
                for (int j = 0; j < size; j++) {
                    long best = NO_SPAN;
                    for (int i = 0; i < size; i++) {
                        best = Math.max(best, join(shifted[place(i, j)], back[place(n - 1, i)]));
                    }
                    back[place(n, j)] = best;
                }
            }
        }

        private void writeRound(int p, int[] places) {
            int here = p;
            for (int n = criticalRoads - 1; n >= 0 && here != NONE; n--) {
                int index = criticalRoads - 1 - n;
                if (index < places.length) {
                    places[index] = here;
                }
                here = leastNext(here, n);
            }
        }

        /** The least place next to one from which the best way back, n roads more, is still a best one. */
        private int leastNext(int here, int n) {
            for (int i = 0; i < size; i++) {
                long sum = join(shifted[place(i, here)], back[place(n, i)]);
                if (sum != NO_SPAN && sum == back[place(n + 1, here)]) {
                    return i;
                }
            }
            return NONE;
        }

        // ---- when sums come again

        /**
         * Finds AGAIN (behind findPace()); false if it is SPENT. In shifted spans the sums of n + C roads are just
         * those of n roads, and each product follows from the one ahead of it, so one like an earlier one is enough.
         */
        boolean findAgain() {
            shiftByPace();
            if (orbit.length == 0) {
                orbit = new long[FARTHEST_AGAIN + 1][CELLS];
            }
            Arrays.fill(orbit[0], NO_SPAN);
            for (int i = 0; i < size; i++) {
                orbit[0][place(i, i)] = 0;
            }
            for (int n = 1; n < orbit.length; n++) {
                multiply(shifted, orbit[n - 1], orbit[n]);
                for (int m = 0; m < n; m++) {
                    if (areAlike(orbit[m], orbit[n])) {
                        againLead = m;
                        againRound = n - m;
                        return true;
                    }
                }
            }
            return false;
        }

        private boolean areAlike(long[] a, long[] b) {
            for (int i = 0; i < size; i++) {
                for (int j = 0; j < size; j++) {
                    if (a[place(i, j)] != b[place(i, j)]) {
                        return false;
                    }
                }
            }
            return true;
        }
    }
}
