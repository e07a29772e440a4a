import java.util.NoSuchElementException;

/**
 * Tells an object as a text: first what can be asked, then what can only be told by changing it (sorts, ROADS, the PUSH
 * TABLE). Of long rows only the first few are told, so that it stays within 512 calls. The object is of no use behind it.
 */
final class Probe {
    private static final long ALL_SORTS = (1L << 40) + (1L << 20) + (1L << 10) + 1;
    private static final int FEW = 4;
    private final BeatBench x;
    private final StringBuilder text = new StringBuilder();

    private Probe(BeatBench x) {
        this.x = x;
    }

    static String told(BeatBench x) {
        Probe p = new Probe(x);
        p.sheets();
        p.bench();
        p.kept();
        p.spans();
        p.sorts();
        p.roads();
        p.pushes();
        return p.text.toString();
    }

    private void add(long answer) {
        text.append(answer).append(' ');
    }

    /** Where an answer of -1 may be NONE. */
    private void addWithStatus(long answer) {
        text.append(answer).append('/').append(x.status()).append(' ');
    }

    private void sheets() {
        for (int s = 0; s < 4; s++) for (int p = 0; p < 6; p++) addWithStatus(x.read(s, p));
    }

    private void bench() {
        for (int w = 0; w < 4; w++) add(x.count(w));
        int many = x.count(2);
        for (int k = 0; k < many; k++) for (int w = 0; w < 4; w++) add(x.beats(k, w));
        for (int w = 0; w < 2; w++) add(x.round(w));
    }

    private void kept() {
        for (int k = 0; k < 8; k++) for (int w = 0; w < 3; w++) add(x.end(k, w));
        for (int k = 0; k < FEW; k++) add(x.leader(k));
        for (int k = 0; k < FEW; k++) addOut(k);
    }

    private void addOut(int k) {
        try {
            add(x.out(k));
        } catch (NoSuchElementException none) {
            text.append("none ");
        }
    }

    private void spans() {
        for (int i = 0; i <= FEW; i++) for (int j = 0; j <= FEW; j++) addWithStatus(x.sums(1, i, j));
        add(x.critical());
    }

    private void sorts() {
        for (int s = 0; s < 4; s++) {
            x.write(s, 0, ALL_SORTS);
            addWithStatus(x.read(s, 0));
        }
    }

    private void roads() {
        int few = Math.min(FEW, x.count(2));
        for (int a = 0; a < few; a++) {
            for (int b = 0; b < few; b++) {
                x.road(a, b, false);
                add(x.count(3));
            }
        }
    }

    private void pushes() {
        x.ring(4096);
        x.beater(2, 4095);
        x.beater(2, 0);
        x.road(1, 0, true);
        for (int q = 1; q <= 16; q++) {
            x.turn(0, 4095);
            x.turn(1, 256 * q - 2);
            x.go(1);
            add(x.beats(1, 0));
        }
    }
}
