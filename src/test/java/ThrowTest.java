import java.util.NoSuchElementException;
import java.util.Random;
import java.util.function.Supplier;

/**
 * No call throws, with numbers at and beyond all bounds, on benches and tables that are empty, full and between (LANGUAGE.md, rules 6
 * and 7); out() alone throws NoSuchElementException, and nothing else. A refused call gives NONE or false.
 */
public final class ThrowTest {
    private static final int MOST_CALLS = 250;
    private static final int[] EDGES = {
        Integer.MIN_VALUE, Integer.MIN_VALUE + 1, -1_048_577, -1_048_576, -4097, -101, -24, -2, -1, 0, 1, 2, 3, 4, 7, 8, 9, 10,
        11, 12, 15, 16, 17, 23, 24, 25, 31, 32, 33, 63, 64, 99, 100, 101, 143, 144, 145, 4095, 4096, 4097, 20_000, 20_001,
        1_048_576, 1_048_577, (1 << 24) - 1, 1 << 24, 1 << 30, Integer.MAX_VALUE - 1, Integer.MAX_VALUE
    };
    private static final long[] FAR = {
        Long.MIN_VALUE, -1_000_000_000_001L, -(1L << 32), 1L << 31, 1L << 32, 999_999_999_999L, 1_000_000_000_000L,
        1_000_000_000_001L, 1L << 62, Long.MAX_VALUE
    };
    private static final Check C = new Check("ThrowTest");

    private final Supplier<BeatBench> made;
    private final Random chance;
    private BeatBench x;
    private int calls = MOST_CALLS;

    private ThrowTest(Supplier<BeatBench> made, long seed) {
        this.made = made;
        chance = new Random(seed);
    }

    public static void main(String[] args) {
        new ThrowTest(BeatBench::new, 1).tryAll();
        new ThrowTest(ThrowTest::full, 2).tryAll();
        new ThrowTest(ThrowTest::small, 3).tryAll();
        new ThrowTest(ThrowTest::emptied, 4).tryAll();
        C.end();
    }

    private static BeatBench full() {
        BeatBench x = new BeatBench();
        x.ring(4096);
        for (int k = 0; k < 24; k++) x.beater(k % 4, 4095 - k);
        x.roads(1);
        for (int s = 0; s < 4; s++) x.sheet(s, 3 - s, 100);
        x.write(0, 0, 4096);
        x.push(0, 16);
        for (int k = 0; k < 100; k++) x.span(k / 10, k % 10, k % 2 == 0 ? 1_048_576 : -1_048_576);
        return x;
    }

    private static BeatBench small() {
        BeatBench x = new BeatBench();
        for (int k = 0; k < 4; k++) x.beater(k, 3 * k);
        x.roads(3);
        x.sheet(0, 0, 4);
        x.sheet(1, 0, 1);
        x.table(3);
        x.span(0, 1, 5);
        x.span(1, 0, -5);
        return x;
    }

    /** What small() has kept, of BEATERS and SPANS that are gone. */
    private static BeatBench emptied() {
        BeatBench x = small();
        x.ends();
        x.lead();
        x.critical();
        x.ring(2);
        x.table(0);
        x.sheet(0, 3, 0);
        return x;
    }

    private int any() {
        return EDGES[chance.nextInt(EDGES.length)];
    }

    private long anyFar() {
        return chance.nextBoolean() ? any() : FAR[chance.nextInt(FAR.length)];
    }

    private void tryAll() {
        for (int a : EDGES) {
            one(a);
            for (int b : EDGES) two(a, b);
            for (int n = 0; n < 20; n++) many(a);
        }
    }

    private BeatBench fresh(int more) {
        calls += 2 * more;
        if (calls > MOST_CALLS) {
            calls = 2 * more;
            x = made.get();
        }
        return x;
    }

    private void one(int a) {
        BeatBench b = fresh(22);
        is("phases", b.phases(a));
        is("roads", b.roads(a));
        is("go", b.go(a));
        is("count", b.count(a));
        is("step", b.step(a));
        is("arc", b.arc(a));
        is("round", b.round(a));
        is("meet", b.meet(a));
        is("ends", b.ends());
        is("sure", b.sure(a));
        is("lead", b.lead());
        is("leader", b.leader(a));
        is("critical", b.critical());
        is("pace", b.pace(a));
        is("again", b.again(a));
        out(a);
        is("table", b.table(a));
        is("pace", b.pace(0));
        is("again", b.again(0));
        is("clear", b.clear());
        is("ring", b.ring(a));
        is("round", b.round(0));
    }

    private void two(int a, int b) {
        BeatBench x = fresh(11);
        is("read", x.read(a, b));
        is("beater", x.beater(a, b));
        is("kind", x.kind(a, b));
        is("turn", x.turn(a, b));
        is("push", x.push(a, b));
        is("beats", x.beats(a, b));
        is("end", x.end(a, b));
        is("cut", x.cut(a, b));
        is("longest", x.longest(a, b));
        is("road", x.road(a, b, true));
        is("road", x.road(b, a, false));
    }

    private void many(int a) {
        BeatBench x = fresh(6);
        is("sheet", x.sheet(any(), a, any()));
        is("sheet", x.sheet(a, any(), any()));
        is("write", x.write(a, any(), anyFar()));
        is("pour", x.pour(a, any(), any(), any(), any()));
        is("span", x.span(a, any(), any()));
        is("sums", x.sums(anyFar(), a, any()));
    }

    private void is(String call, boolean answer) {
        C.due("STATUS of " + call, x.status() == 0, answer);
    }

    private void is(String call, long answer) {
        int status = x.status();
        C.due("STATUS of " + call, status >= 0 && status <= 11, true);
        if (status != 0) C.due("answer of " + call, answer, BeatBench.NONE);
    }

    private void out(int k) {
        try {
            C.due("out(" + k + ")", x.out(k) >= 0, true);
        } catch (NoSuchElementException due) {
            C.due("out(" + k + ") throws that very class", due.getClass() == NoSuchElementException.class, true);
        }
    }
}
