/** Promises 1 to 6: a new object, status and SHEETS. */
public final class SheetTest {
    private static final Check C = new Check("SheetTest");

    public static void main(String[] args) {
        newObject();
        status();
        sheets();
        sorts();
        pouring();
        C.end();
    }

    private static void newObject() {
        BeatBench x = new BeatBench();
        C.due("status() of a new object", x.status(), 0);
        C.outIsNone(x, 0);
        C.outIsNone(x, -1);
        C.due("status() behind out()", x.status(), 0);
        for (int s = 0; s < 4; s++) C.none(x, "read(" + s + ", 0)", x.read(s, 0), 3);
        C.due(x, "count(0)", x.count(0), 0, 0);
        C.due(x, "count(1)", x.count(1), 12, 0);
        C.due(x, "count(2)", x.count(2), 0, 0);
        C.due(x, "count(3)", x.count(3), 0, 0);
        for (int i = 0; i < 10; i++) {
            for (int j = 0; j < 10; j++) C.no(x, "cut(" + i + ", " + j + ")", x.cut(i, j), 8);
        }
        C.no(x, "cut(10, 0)", x.cut(10, 0), 2);
        C.none(x, "end(0, 0)", x.end(0, 0), 8);
        C.none(x, "leader(0)", x.leader(0), 8);
    }

    private static void status() {
        BeatBench x = new BeatBench();
        C.none(x, "count(9)", x.count(9), 2);
        C.due("status() again", x.status(), 2);
        C.outIsNone(x, 0);
        C.due("status() behind out()", x.status(), 2);
        C.yes(x, "clear()", x.clear());
        C.no(x, "sheet(0, 0, -1)", x.sheet(0, 0, -1), 6);
        C.none(x, "ends()", x.ends(), 5);
    }

    private static void sheets() {
        BeatBench x = new BeatBench();
        C.yes(x, "sheet(3, 3, 100)", x.sheet(3, 3, 100));
        C.due(x, "read(3, 99)", x.read(3, 99), 0, 0);
        C.none(x, "read(3, 100)", x.read(3, 100), 4);
        C.yes(x, "write(3, 99, -1)", x.write(3, 99, -1));
        C.due(x, "read(3, 99)", x.read(3, 99), -1, 0);
        C.due(x, "read(3, 98)", x.read(3, 98), 0, 0);
        C.yes(x, "write(3, 0, 5)", x.write(3, 0, 5));
        C.yes(x, "sheet(3, 0, 100): all 0 again", x.sheet(3, 0, 100));
        C.due(x, "read(3, 0)", x.read(3, 0), 0, 0);
        C.due(x, "read(3, 99)", x.read(3, 99), 0, 0);
        C.yes(x, "write(3, 99, 7)", x.write(3, 99, 7));
        C.yes(x, "sheet(3, 0, 0)", x.sheet(3, 0, 0));
        C.none(x, "read(3, 0): no place, but not MISSING", x.read(3, 0), 4);
        C.yes(x, "sheet(3, 0, 100)", x.sheet(3, 0, 100));
        C.due(x, "read(3, 99)", x.read(3, 99), 0, 0);
        C.none(x, "read(2, 0)", x.read(2, 0), 3);
    }

    private static void sorts() {
        long[] sent = {127, 128, 255, 256, -129, 32768, 65535, 1L << 31, (1L << 32) + 9, Long.MIN_VALUE, Long.MAX_VALUE};
        long[][] due = {
            {127, -128, -1, 0, 127, 0, -1, 0, 9, 0, -1},
            {127, 128, 255, 256, -129, -32768, -1, 0, 9, 0, -1},
            {127, 128, 255, 256, -129, 32768, 65535, Integer.MIN_VALUE, 9, 0, -1},
            sent
        };
        BeatBench x = new BeatBench();
        for (int sort = 0; sort < 4; sort++) {
            C.yes(x, "sheet", x.sheet(sort, sort, 11));
            for (int k = 0; k < sent.length; k++) {
                C.yes(x, "write", x.write(sort, k, sent[k]));
            }
        }
        for (int sort = 0; sort < 4; sort++) {
            for (int k = 0; k < sent.length; k++) {
                C.due(x, sent[k] + " of sort " + sort, x.read(sort, k), due[sort][k], 0);
            }
        }
    }

    private static void pouring() {
        BeatBench x = new BeatBench();
        x.sheet(0, 1, 6);
        x.sheet(1, 1, 4);
        for (int k = 0; k < 6; k++) x.write(0, k, 10 + k);
        C.yes(x, "pour(0, 2, 1, 1, 3)", x.pour(0, 2, 1, 1, 3));
        row(x, 1, 0, 12, 13, 14);
        row(x, 0, 10, 11, 12, 13, 14, 15);
        C.yes(x, "pour(0, 0, 0, 1, 5): on, over itself", x.pour(0, 0, 0, 1, 5));
        row(x, 0, 10, 10, 11, 12, 13, 14);
        C.yes(x, "pour(0, 2, 0, 0, 4): back, over itself", x.pour(0, 2, 0, 0, 4));
        row(x, 0, 11, 12, 13, 14, 13, 14);
        C.yes(x, "pour(0, 6, 1, 4, 0): none", x.pour(0, 6, 1, 4, 0));
        C.yes(x, "pour(1, 0, 0, 2, 4): all", x.pour(1, 0, 0, 2, 4));
        row(x, 0, 11, 12, 0, 12, 13, 14);
        row(x, 1, 0, 12, 13, 14);
        x.sheet(2, 1, 0);
        C.yes(x, "pour(2, 0, 2, 0, 0)", x.pour(2, 0, 2, 0, 0));
        C.no(x, "pour(2, 0, 2, 0, 1)", x.pour(2, 0, 2, 0, 1), 4);
    }

    private static void row(BeatBench x, int sheet, long... due) {
        for (int k = 0; k < due.length; k++) {
            C.due(x, "read(" + sheet + ", " + k + ")", x.read(sheet, k), due[k], 0);
        }
        C.none(x, "read behind the last", x.read(sheet, due.length), 4);
    }
}
