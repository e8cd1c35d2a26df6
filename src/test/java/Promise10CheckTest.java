import java.util.List;

/** Promise 10: check. It is a question: whatever it answers, nothing changes. */
public final class Promise10CheckTest {
    private static final Due due = new Due("Promise10CheckTest");

    public static void main(String[] args) {
        due.sentence("FITS", Promise10CheckTest::fits);
        due.sentence("The unit: a data unit, the first one to the last, at any place", Promise10CheckTest::data);
        due.sentence("The unit: P, at any place", () -> parity(0));
        due.sentence("The unit: Q, at any place", () -> parity(1));
        due.sentence("The unit: by what would fit, not by what was spoilt", Promise10CheckTest::looksLikeOne);
        due.sentence("MANY: by no single one: two at one place", () -> many(OffRows.manyAtOnePlace()));
        due.sentence("MANY: by no single one: two at two places", () -> many(OffRows.manyAtTwoPlaces()));
        due.sentence("MANY: by no single one: a power that no unit has", Promise10CheckTest::powerOutside);
        due.sentence("BAD: some unit is lost, whether the others fit or not", Promise10CheckTest::lost);
        due.finish();
    }

    private static void asked(Rows.Kind kind, int answer) {
        due.leaves(kind, "check()", (x, k) -> x.check(), answer);
    }

    private static void fits() {
        for (int k = 2; k <= 14; k++) {
            int units = k;
            asked(new Rows.Kind("empty " + k, k, () -> Rows.empty(units)), TwinParity.FITS);
            asked(new Rows.Kind("filled " + k, k, () -> Rows.filled(units)), TwinParity.FITS);
        }
        asked(new Rows.Kind("new", 4, TwinParity::new), TwinParity.FITS);
    }

    private static void data() {
        for (int k = 2; k <= 14; k++) {
            for (int unit = 0; unit < k; unit++) {
                for (Rows.Kind kind : OffRows.offBy(k, unit)) {
                    asked(kind, unit);
                }
            }
        }
    }

    private static void parity(int which) {
        for (int k = 2; k <= 14; k++) {
            for (Rows.Kind kind : OffRows.offBy(k, k + which)) {
                asked(kind, k + which);
            }
        }
    }

    private static void looksLikeOne() {
        for (int k = 2; k <= 14; k++) {
            for (int i = 0; i < k; i++) {
                asked(OffRows.power(k, i, 9), i);
                asked(OffRows.power(k, i, 0, 63), i);
            }
        }
    }

    private static void many(List<Rows.Kind> kinds) {
        for (Rows.Kind kind : kinds) {
            asked(kind, TwinParity.MANY);
        }
    }

    /** Those just beside the row's own, and those that come again only behind the whole circle. */
    private static void powerOutside() {
        for (int k = 2; k <= 14; k++) {
            for (int i : new int[] {k, k + 1, k + 2, 16, 127, 128, -1, -2, -k}) {
                asked(OffRows.power(k, i, 0), TwinParity.MANY);
                asked(OffRows.power(k, i, 63), TwinParity.MANY);
                asked(OffRows.power(k, i, 3, 4), TwinParity.MANY);
            }
            asked(OffRows.power(k, 255, 5), 0);
        }
    }

    private static void lost() {
        for (int k : new int[] {2, 5, 14}) {
            for (int one = 0; one < k + 2; one++) {
                for (int other = one; other < k + 2; other++) {
                    int[] lost = {one, other};
                    String name = k + " units, without " + one + " and " + other;
                    asked(new Rows.Kind(name, k, () -> Rows.without(Rows.filled(k), lost)), TwinParity.BAD);
                    asked(new Rows.Kind(name + ", off", k, () -> Rows.without(Rows.spoilt(k, 1), lost)), TwinParity.BAD);
                    asked(new Rows.Kind(name + ", many", k, () -> Rows.without(Rows.many(k), lost)), TwinParity.BAD);
                }
            }
        }
    }
}
