/** Promise 5: make. */
public final class Promise05MakeTest {
    private static final Due due = new Due("Promise05MakeTest");

    public static void main(String[] args) {
        due.sentence("P and Q become what they must be: 0", Promise05MakeTest::parities);
        due.sentence("That the row fits, at each place", Promise05MakeTest::eachPlace);
        due.sentence("A row that fits stays as it is: 0", Promise05MakeTest::fitsAlready);
        due.sentence("BAD: some unit is lost: one", Promise05MakeTest::oneLost);
        due.sentence("BAD: some unit is lost: two", Promise05MakeTest::twoLost);
        due.sentence("No unit is lost any more: 0", Promise05MakeTest::lostNoMore);
        due.finish();
    }

    private static void parities() {
        for (int k = 2; k <= 14; k++) {
            int[][] spoilt = {{0}, {k - 1}, {k}, {k + 1}, {k, k + 1}, {0, 1, k, k + 1}};
            for (int[] units : spoilt) {
                TwinParity x = Rows.spoilt(k, units);
                int[][] bytes = Rows.bytes(x, k);
                due.is("make() in " + k, x.make(), 0);
                for (int at = 0; at < 64; at++) {
                    bytes[k][at] = Rows.sumP(bytes, k, at);
                    bytes[k + 1][at] = Rows.sumQ(bytes, k, at);
                }
                due.same("make() in " + k, Rows.state(x), Rows.state(k, bytes));
                due.is("then check()", x.check(), TwinParity.FITS);
            }
        }
    }

    private static void eachPlace() {
        for (int at = 0; at < 64; at++) {
            for (int unit = 0; unit < 4; unit++) {
                TwinParity x = Rows.empty(2);
                x.spoil(unit, at, 1, 1);
                due.is("make() of " + unit + " at " + at, x.make(), 0);
                due.is("then get(0, " + at + ")", x.get(0, at), unit == 0 ? 0xC6 : 0);
                due.is("then get(1, " + at + ")", x.get(1, at), unit == 1 ? 0xC6 : 0);
                due.is("then get(2, " + at + ")", x.get(2, at), unit < 2 ? 0xC6 : 0);
                due.is("then get(3, " + at + ")", x.get(3, at), unit == 0 ? 0xC6 : unit == 1 ? Gf.times(2, 0xC6) : 0);
            }
        }
    }

    private static void fitsAlready() {
        for (Rows.Kind kind : Rows.fittingKinds()) {
            due.leaves(kind, "make()", (x, k) -> x.make(), 0);
        }
    }

    private static void oneLost() {
        for (int k = 2; k <= 14; k++) {
            for (int unit = 0; unit < k + 2; unit++) {
                refused(k, unit, unit);
            }
        }
    }

    private static void twoLost() {
        for (int k : new int[] {2, 5, 14}) {
            for (int one = 0; one < k + 2; one++) {
                for (int other = one + 1; other < k + 2; other++) {
                    refused(k, one, other);
                }
            }
        }
    }

    private static void refused(int k, int one, int other) {
        String name = k + " units, without " + one + " and " + other;
        Rows.Kind off = new Rows.Kind(name + ", off", k, () -> Rows.without(Rows.many(k), one, other));
        due.leaves(off, "make()", (x, units) -> x.make(), TwinParity.BAD);
        Rows.Kind fits = new Rows.Kind(name, k, () -> Rows.without(Rows.filled(k), one, other));
        due.leaves(fits, "make()", (x, units) -> x.make(), TwinParity.BAD);
    }

    private static void lostNoMore() {
        for (Rows.Kind kind : Rows.lostKinds()) {
            TwinParity x = kind.make().get();
            due.is(kind.name() + ": make()", x.make(), TwinParity.BAD);
            x.mend();
            due.is(kind.name() + ": mend(), then make()", x.make(), 0);
            due.is("then check()", x.check(), TwinParity.FITS);
        }
    }
}
