import java.util.List;

/** Promise 11: fix. */
public final class Promise11FixTest {
    private static final Due due = new Due("Promise11FixTest");

    public static void main(String[] args) {
        due.sentence("A data unit gets the bytes with which the row fits: that unit", Promise11FixTest::data);
        due.sentence("P gets the bytes with which the row fits: P", () -> parity(0));
        due.sentence("Q gets the bytes with which the row fits: Q", () -> parity(1));
        due.sentence("The unit by which the row is off, not those that were spoilt", Promise11FixTest::looksLikeOne);
        due.sentence("FITS as for check(), and nothing changes", Promise11FixTest::fits);
        due.sentence("MANY as for check(), and nothing changes: two at one place", () -> many(OffRows.manyAtOnePlace()));
        due.sentence("MANY as for check(), and nothing changes: two at two places", () -> many(OffRows.manyAtTwoPlaces()));
        due.sentence("MANY as for check(), and nothing changes: no unit's power", Promise11FixTest::powerOutside);
        due.sentence("BAD as for check(), and nothing changes", Promise11FixTest::lost);
        due.finish();
    }

    private static void refused(Rows.Kind kind, int answer) {
        due.leaves(kind, "fix()", (x, k) -> x.fix(), answer);
    }

    private static void mended(Rows.Kind kind, int unit) {
        TwinParity x = kind.make().get();
        due.is(kind.name() + ": fix()", x.fix(), unit);
        due.same(kind.name() + ": fix()", Rows.state(x), Rows.state(Rows.filled(kind.k())));
        due.is(kind.name() + ": fix(), then check()", x.check(), TwinParity.FITS);
        due.is(kind.name() + ": fix(), then fix()", x.fix(), TwinParity.FITS);
    }

    private static void data() {
        for (int k = 2; k <= 14; k++) {
            for (int unit = 0; unit < k; unit++) {
                for (Rows.Kind kind : OffRows.offBy(k, unit)) {
                    mended(kind, unit);
                }
            }
        }
    }

    private static void parity(int which) {
        for (int k = 2; k <= 14; k++) {
            for (Rows.Kind kind : OffRows.offBy(k, k + which)) {
                mended(kind, k + which);
            }
        }
    }

    private static void looksLikeOne() {
        for (int k = 2; k <= 14; k++) {
            for (int i = 0; i < k; i++) {
                TwinParity x = OffRows.power(k, i, 0, 63).make().get();
                int[][] bytes = Rows.bytes(x, k);
                due.is("fix() of the power " + i + " in " + k, x.fix(), i);
                bytes[i][0] ^= 0x35;
                bytes[i][63] ^= 0x35;
                due.same("fix() of the power " + i + " in " + k, Rows.state(x), Rows.state(k, bytes));
                due.is("then check()", x.check(), TwinParity.FITS);
            }
        }
    }

    private static void fits() {
        for (int k = 2; k <= 14; k++) {
            int units = k;
            refused(new Rows.Kind("empty " + k, k, () -> Rows.empty(units)), TwinParity.FITS);
            refused(new Rows.Kind("filled " + k, k, () -> Rows.filled(units)), TwinParity.FITS);
        }
        refused(new Rows.Kind("new", 4, TwinParity::new), TwinParity.FITS);
    }

    private static void many(List<Rows.Kind> kinds) {
        for (Rows.Kind kind : kinds) {
            refused(kind, TwinParity.MANY);
        }
    }

    private static void powerOutside() {
        for (int k = 2; k <= 14; k++) {
            for (int i : new int[] {k, k + 1, 127, -1, -k}) {
                refused(OffRows.power(k, i, 0), TwinParity.MANY);
                refused(OffRows.power(k, i, 3, 63), TwinParity.MANY);
            }
        }
    }

    private static void lost() {
        for (int k : new int[] {2, 5, 14}) {
            for (int one = 0; one < k + 2; one++) {
                for (int other = one; other < k + 2; other++) {
                    int[] lost = {one, other};
                    String name = k + " units, without " + one + " and " + other;
                    refused(new Rows.Kind(name, k, () -> Rows.without(Rows.filled(k), lost)), TwinParity.BAD);
                    refused(new Rows.Kind(name + ", off", k, () -> Rows.without(Rows.spoilt(k, 1), lost)), TwinParity.BAD);
                    refused(new Rows.Kind(name + ", many", k, () -> Rows.without(Rows.many(k), lost)), TwinParity.BAD);
                }
            }
        }
    }
}
