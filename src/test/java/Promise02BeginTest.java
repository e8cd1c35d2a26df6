/** Promise 2: begin. */
public final class Promise02BeginTest {
    private static final Due due = new Due("Promise02BeginTest");

    public static void main(String[] args) {
        due.sentence("A row of k data units: k and 2", Promise02BeginTest::eachLength);
        due.sentence("All bytes 0, whatever the row before had", Promise02BeginTest::allBytesZero);
        due.sentence("None lost, whatever was lost before", Promise02BeginTest::noneLost);
        due.sentence("BAD: k is below 2", Promise02BeginTest::tooSmall);
        due.sentence("BAD: k is above 14", Promise02BeginTest::tooLarge);
        due.finish();
    }

    private static void eachLength() {
        for (int k = 2; k <= 14; k++) {
            TwinParity x = new TwinParity();
            due.is("begin(" + k + ")", x.begin(k), k + 2);
            due.is("then count(0)", x.count(0), k + 2);
            due.is("then put in the last data unit", x.put(k - 1, 63, 1, 1), 1);
            due.is("then put in P", x.put(k, 63, 1, 1), TwinParity.BAD);
            due.is("then get of P", x.get(k, 63), 1);
            due.is("then get of Q", x.get(k + 1, 63), Gf.power(k - 1));
            due.is("then get behind Q", x.get(k + 2, 63), TwinParity.BAD);
            due.is("then check()", x.check(), TwinParity.FITS);
        }
    }

    private static void allBytesZero() {
        for (int before = 2; before <= 14; before++) {
            for (int k = 2; k <= 14; k++) {
                TwinParity x = Rows.filled(before);
                x.begin(k);
                due.same("begin(" + k + ") behind " + before, Rows.state(x), Rows.state(k, new int[k + 2][64]));
                due.is("then check()", x.check(), TwinParity.FITS);
            }
        }
        for (int k = 2; k <= 13; k++) {
            TwinParity x = Rows.filled(14);
            x.begin(k);
            x.begin(14);
            due.same("begin(14) behind begin(" + k + ")", Rows.state(x), Rows.state(14, new int[16][64]));
        }
    }

    private static void noneLost() {
        for (Rows.Kind kind : Rows.lostKinds()) {
            for (int k = 2; k <= 14; k++) {
                TwinParity x = kind.make().get();
                due.is(kind.name() + ": begin(" + k + ")", x.begin(k), k + 2);
                due.is("then count(1)", x.count(1), 0);
                due.is("then count(2)", x.count(2), TwinParity.BAD);
                due.same("begin(" + k + ")", Rows.state(x), Rows.state(k, new int[k + 2][64]));
                due.is("then begin(14)", x.begin(14), 16);
                due.same("begin(14)", Rows.state(x), Rows.state(14, new int[16][64]));
            }
        }
    }

    private static void tooSmall() {
        for (int k : new int[] {1, 0, -1, -2, -14, -254, Rows.MIN, Rows.MIN + 2, Rows.MIN + 14}) {
            due.leavesAll("begin(" + k + ")", (x, units) -> x.begin(k), TwinParity.BAD);
        }
    }

    private static void tooLarge() {
        for (int k : new int[] {15, 16, 17, 18, 64, 256 + 2, 65536 + 4, Rows.MAX, Rows.MAX - 1}) {
            due.leavesAll("begin(" + k + ")", (x, units) -> x.begin(k), TwinParity.BAD);
        }
    }
}
