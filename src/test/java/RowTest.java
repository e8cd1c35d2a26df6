/** Promises 1 (a new object), 2 (begin) and 12 (count). */
public final class RowTest {
    private static final Due due = new Due("RowTest");

    public static void main(String[] args) {
        newObject();
        beginEachLength();
        beginBad();
        beginForgets();
        count();
        due.finish();
    }

    private static void newObject() {
        TwinParity x = new TwinParity();
        emptyRow("new", x, 4);
        due.is("new, put(3, ..)", x.put(3, 0, 1, 1), 1);
        due.is("new, put(4, ..)", x.put(4, 0, 1, 1), TwinParity.BAD);
        due.is("new, lose(5)", x.lose(5), 1);
        due.is("new, lose(6)", x.lose(6), TwinParity.BAD);
    }

    private static void emptyRow(String call, TwinParity x, int k) {
        due.is(call + ", count(0)", x.count(0), k + 2);
        due.is(call + ", count(1)", x.count(1), 0);
        due.is(call + ", count(2)", x.count(2), TwinParity.BAD);
        due.is(call + ", check()", x.check(), TwinParity.FITS);
        due.same(call, Rows.words(x), new long[(k + 2) * 8]);
    }

    private static void beginEachLength() {
        for (int k = 2; k <= 14; k++) {
            TwinParity x = new TwinParity();
            due.is("begin(" + k + ")", x.begin(k), k + 2);
            emptyRow("begin(" + k + ")", x, k);
            due.is("get of the last unit", x.get(k + 1, 63), 0);
            due.is("get behind the last unit", x.get(k + 2, 0), TwinParity.BAD);
        }
    }

    private static void beginBad() {
        int[] wrong = {1, 0, -1, 15, 16, 100, Integer.MIN_VALUE, Integer.MAX_VALUE};
        TwinParity x = new TwinParity();
        x.begin(3);
        x.spoil(0, 0, 64, 5);
        x.spoil(4, 0, 64, 6);
        x.lose(1);
        long[] before = Rows.words(x);
        for (int k : wrong) {
            due.is("begin(" + k + ")", x.begin(k), TwinParity.BAD);
        }
        due.is("begin BAD, count(0)", x.count(0), 5);
        due.is("begin BAD, count(2)", x.count(2), 1);
        due.same("begin BAD", Rows.words(x), before);
    }

    private static void beginForgets() {
        TwinParity x = new TwinParity();
        x.begin(14);
        for (int unit = 0; unit < 16; unit++) {
            x.spoil(unit, 0, 64, unit + 1);
        }
        x.lose(0);
        x.lose(15);
        due.is("begin(2) over a full row", x.begin(2), 4);
        emptyRow("begin(2) over a full row", x, 2);
        due.is("begin(14) again", x.begin(14), 16);
        emptyRow("begin(14) again", x, 14);
    }

    private static void count() {
        TwinParity x = new TwinParity();
        int[] wrong = {-1, 3, 4, Integer.MIN_VALUE, Integer.MAX_VALUE};
        for (int which : wrong) {
            due.is("count(" + which + ")", x.count(which), TwinParity.BAD);
        }
        x.lose(5);
        due.is("count(1) of one", x.count(1), 1);
        due.is("count(2) of one", x.count(2), 5);
        x.lose(2);
        due.is("count(0) of two", x.count(0), 6);
        due.is("count(1) of two", x.count(1), 2);
        due.is("count(2) of two", x.count(2), 2);
        due.is("count(3) of two", x.count(3), TwinParity.BAD);
        x.mend();
        due.is("count(1) mended", x.count(1), 0);
        due.is("count(2) mended", x.count(2), TwinParity.BAD);
        x.lose(0);
        due.is("count(2) of unit 0", x.count(2), 0);
    }
}
