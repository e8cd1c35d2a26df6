import java.util.Arrays;

/** Promise 9: mend. */
public final class Promise09MendTest {
    private static final Due due = new Due("Promise09MendTest");

    public static void main(String[] args) {
        due.sentence("None is lost: 0, and nothing changes, whether the row fits or not", Promise09MendTest::none);
        due.sentence("One is lost: it gets the bytes with which the row fits: 1", Promise09MendTest::one);
        due.sentence("Two data units are lost: 2", () -> two(0));
        due.sentence("A data unit and P are lost: 2", () -> two(1));
        due.sentence("A data unit and Q are lost: 2", () -> two(2));
        due.sentence("P and Q are lost: 2", () -> two(3));
        due.sentence("They are not lost any more", Promise09MendTest::notLostAnyMore);
        due.sentence("A data unit lost alone: by P, whatever Q has", Promise09MendTest::dataAlone);
        due.sentence("P lost alone: its sum, whatever Q has", Promise09MendTest::pAlone);
        due.sentence("Q lost alone: its sum, whatever P has", Promise09MendTest::qAlone);
        due.sentence("Two of a row that was spoilt: it fits, the others keep their bytes", Promise09MendTest::twoOfSpoilt);
        due.finish();
    }

    private static void none() {
        for (Rows.Kind kind : Rows.wholeKinds()) {
            due.leaves(kind, "mend()", (x, k) -> x.mend(), 0);
        }
    }

    private static void one() {
        for (int k = 2; k <= 14; k++) {
            for (int unit = 0; unit < k + 2; unit++) {
                back(k, unit);
            }
        }
    }

    /** Pairs of this kind, in both orders: 0 data and data, 1 data and P, 2 data and Q, 3 P and Q. */
    private static void two(int kind) {
        for (int k = 2; k <= 14; k++) {
            for (int one = 0; one < k + 2; one++) {
                for (int other = 0; other < k + 2; other++) {
                    int parities = (one == k || other == k ? 1 : 0) + (one == k + 1 || other == k + 1 ? 2 : 0);
                    if (one != other && parities == kind) {
                        back(k, one, other);
                    }
                }
            }
        }
    }

    /** These are lost from a row that fits, and all come back, whatever they had. */
    private static void back(int k, int... units) {
        TwinParity x = Rows.spoilt(k, units);
        Rows.without(x, units);
        String call = "mend() of " + Arrays.toString(units) + " in " + k;
        due.is(call, x.mend(), units.length);
        due.same(call, Rows.state(x), Rows.state(Rows.filled(k)));
        due.is(call + ", then check()", x.check(), TwinParity.FITS);
    }

    private static void notLostAnyMore() {
        for (Rows.Kind kind : Rows.lostKinds()) {
            TwinParity x = kind.make().get();
            int many = x.count(1);
            int lowest = x.count(2);
            due.is(kind.name() + ": mend()", x.mend(), many);
            due.is("then count(1)", x.count(1), 0);
            due.is("then count(2)", x.count(2), TwinParity.BAD);
            due.is("then mend() again", x.mend(), 0);
            due.is("then spoil of it", x.spoil(lowest, 0, 1, 1), 1);
            due.is("then get of it", x.get(lowest, 0), 0xC6);
            due.is("then make()", x.make(), 0);
            due.is("then lose of it", x.lose(lowest), 1);
        }
    }

    /** The row is off at all places, by both parities: what is lost alone goes by one of them. */
    private static void dataAlone() {
        for (int k : new int[] {2, 3, 5, 14}) {
            for (int unit = 0; unit < k; unit++) {
                for (int[] spoilt : new int[][] {{k + 1}, {k}, {k, k + 1}}) {
                    TwinParity x = Rows.spoilt(k, spoilt);
                    int[][] bytes = Rows.bytes(x, k);
                    x.lose(unit);
                    due.is("mend() of " + unit + " in " + k, x.mend(), 1);
                    for (int at = 0; at < 64; at++) {
                        bytes[unit][at] ^= Rows.sumP(bytes, k, at) ^ bytes[k][at];
                    }
                    due.same("mend() of " + unit + " in " + k, Rows.state(x), Rows.state(k, bytes));
                }
            }
        }
    }

    private static void pAlone() {
        parityAlone(0);
    }

    private static void qAlone() {
        parityAlone(1);
    }

    private static void parityAlone(int which) {
        for (int k : new int[] {2, 3, 5, 14}) {
            for (int[] spoilt : new int[][] {{k}, {k + 1}, {k, k + 1}, {0}, {k - 1, k}, {k - 1, k + 1}, {0, 1, k, k + 1}}) {
                TwinParity x = Rows.spoilt(k, spoilt);
                int[][] bytes = Rows.bytes(x, k);
                x.lose(k + which);
                due.is("mend() of parity " + which + " in " + k, x.mend(), 1);
                for (int at = 0; at < 64; at++) {
                    bytes[k + which][at] = which == 0 ? Rows.sumP(bytes, k, at) : Rows.sumQ(bytes, k, at);
                }
                due.same("mend() of parity " + which + " in " + k, Rows.state(x), Rows.state(k, bytes));
            }
        }
    }

    private static void twoOfSpoilt() {
        for (int k : new int[] {2, 3, 5, 14}) {
            for (int one = 0; one < k + 2; one++) {
                for (int other = one + 1; other < k + 2; other++) {
                    TwinParity x = Rows.many(k);
                    long[] want = Rows.state(x);
                    Rows.without(x, other, one);
                    String call = "mend() of spoilt " + one + " and " + other + " in " + k;
                    due.is(call, x.mend(), 2);
                    due.is(call + ", then check()", x.check(), TwinParity.FITS);
                    long[] state = Rows.state(x);
                    System.arraycopy(state, 4 + 9 * one, want, 4 + 9 * one, 8);
                    System.arraycopy(state, 4 + 9 * other, want, 4 + 9 * other, 8);
                    due.same(call, state, want);
                    fits(call, x, k);
                }
            }
        }
    }

    /** Not by check(), so that both can't be wrong in the same way. */
    private static void fits(String call, TwinParity x, int k) {
        int[][] bytes = Rows.bytes(x, k);
        for (int at = 0; at < 64; at++) {
            due.is(call + ", then P at " + at, bytes[k][at], Rows.sumP(bytes, k, at));
            due.is(call + ", then Q at " + at, bytes[k + 1][at], Rows.sumQ(bytes, k, at));
        }
    }
}
