/** The terms: the field, the row, lost units, the difference. */
public final class TermsTest {
    private static final Due due = new Due("TermsTest");

    public static void main(String[] args) {
        due.sentence("The field has the 256 elements 0 .. 255", TermsTest::elements);
        due.sentence("Product modulo the one with the powers 8, 4, 3, 2 and 0", TermsTest::modulus);
        due.sentence("For each element but 0 there is just one whose product with it is 1", TermsTest::inverses);
        due.sentence("Data units 0 .. k - 1, then P, which is k, and Q, which is k + 1", TermsTest::units);
        due.sentence("Each has 64 bytes", TermsTest::bytes);
        due.sentence("The row fits, if it does for each place", TermsTest::fitsAtEachPlace);
        due.sentence("What a lost unit has matters for nothing", TermsTest::lostMattersForNothing);
        due.sentence("A lost unit can't be read", TermsTest::lostCannotBeRead);
        due.sentence("Off by P, if all q are 0: one that is not, and it is by another", () -> offByParity(0));
        due.sentence("Off by Q, if all p are 0: one that is not, and it is by another", () -> offByParity(1));
        due.sentence("Off by data unit i, if at each place q is 2^i p: one where it is not", TermsTest::offByData);
        due.finish();
    }

    private static void elements() {
        TwinParity x = new TwinParity();
        due.is("product(0, 1, false)", x.product(0, 1, false), 0);
        due.is("product(255, 1, false)", x.product(255, 1, false), 255);
        due.is("product(256, 1, false)", x.product(256, 1, false), TwinParity.BAD);
        due.is("product(-1, 1, false)", x.product(-1, 1, false), TwinParity.BAD);
        boolean[] seen = new boolean[256];
        for (int i = 0; i < 255; i++) {
            int power = x.power(i);
            due.is("power(" + i + ") is an element but 0", power > 0 && power < 256 ? 1 : 0, 1);
            due.is("power(" + i + ") came before", seen[power & 255] ? 1 : 0, 0);
            seen[power & 255] = true;
        }
    }

    private static void modulus() {
        TwinParity x = new TwinParity();
        due.is("product(2, 64, false), no power 8 yet", x.product(2, 64, false), 128);
        due.is("product(2, 128, false)", x.product(2, 128, false), 0b00011101);
        due.is("product(128, 2, false)", x.product(128, 2, false), 0b00011101);
        due.is("product(16, 16, false)", x.product(16, 16, false), 0b00011101);
        due.is("product(128, 128, false)", x.product(128, 128, false), 0b00010011);
        due.is("product(255, 255, false)", x.product(255, 255, false), 226);
    }

    private static void inverses() {
        for (int a = 0; a < 256; a++) {
            TwinParity x = new TwinParity();
            int ones = 0;
            for (int b = 0; b < 256; b++) {
                ones += x.product(a, b, false) == 1 ? 1 : 0;
            }
            due.is("how many products of " + a + " are 1", ones, a == 0 ? 0 : 1);
        }
    }

    /** Who is who is told by what a put changes, and by which powers. */
    private static void units() {
        for (int k = 2; k <= 14; k++) {
            for (int unit = 0; unit < k; unit++) {
                TwinParity x = Rows.empty(k);
                x.put(unit, 0, 1, 1);
                for (int other = 0; other < k; other++) {
                    due.is("get(" + other + ", 0) behind put in " + unit, x.get(other, 0), other == unit ? 1 : 0);
                }
                due.is("get of P", x.get(k, 0), 1);
                due.is("get of Q", x.get(k + 1, 0), Gf.power(unit));
            }
        }
    }

    private static void bytes() {
        for (int k = 2; k <= 14; k++) {
            for (int unit = 0; unit < k + 2; unit++) {
                TwinParity x = Rows.empty(k);
                due.is("spoil(" + unit + ", 63, 1, 1) in " + k, x.spoil(unit, 63, 1, 1), 1);
                due.is("get(" + unit + ", 63)", x.get(unit, 63), 0xC6);
                due.is("spoil(" + unit + ", 64, 1, 1) in " + k, x.spoil(unit, 64, 1, 1), TwinParity.BAD);
                due.is("get(" + unit + ", 64)", x.get(unit, 64), TwinParity.BAD);
                due.is("spoil(" + unit + ", 0, 1, 1) in " + k, x.spoil(unit, 0, 1, 1), 1);
                due.is("get(" + unit + ", 0)", x.get(unit, 0), 0xC6);
                due.is("get(" + unit + ", -1)", x.get(unit, -1), TwinParity.BAD);
            }
        }
    }

    private static void fitsAtEachPlace() {
        for (int at = 0; at < 64; at++) {
            for (int unit = 0; unit < 5; unit++) {
                TwinParity x = Rows.filled(3);
                due.is("check()", x.check(), TwinParity.FITS);
                int before = x.get(unit, at);
                Rows.spoilTo(x, unit, at, before ^ 128);
                due.is("check() behind a change of " + unit + " at " + at, x.check(), unit);
                Rows.spoilTo(x, unit, at, before);
                due.is("check() when it is as before", x.check(), TwinParity.FITS);
            }
        }
    }

    /** Two rows that differ in the lost units alone take the same calls in the same way. */
    private static void lostMattersForNothing() {
        for (int k : new int[] {2, 5, 14}) {
            for (int one = 0; one < k + 2; one++) {
                for (int other = 0; other < k + 2; other++) {
                    int left = one != 0 && other != 0 ? 0 : one != 1 && other != 1 ? 1 : -1;
                    TwinParity x = Rows.without(Rows.filled(k), one, other);
                    TwinParity y = Rows.without(Rows.spoilt(k, one, other), one, other);
                    String call = "lost " + one + " and " + other + " in " + k;
                    due.same(call, Rows.state(x), Rows.state(y));
                    due.is(call + ": put", x.put(left, 4, 8, -5L), y.put(left, 4, 8, -5L));
                    due.is(call + ": mend()", x.mend(), y.mend());
                    due.same(call + ": mend()", Rows.state(x), Rows.state(y));
                }
            }
        }
    }

    private static void lostCannotBeRead() {
        for (int unit = 0; unit < 6; unit++) {
            TwinParity x = Rows.without(Rows.filled(4), unit);
            for (int at = 0; at < 64; at++) {
                due.is("get(" + unit + ", " + at + ") of the lost", x.get(unit, at), TwinParity.BAD);
            }
            for (int i = 0; i < 8; i++) {
                due.is("word(" + unit + ", " + i + ") of the lost", x.word(unit, i), 0);
            }
        }
    }

    /** All places but one are off by the parity. */
    private static void offByParity(int which) {
        for (int k : new int[] {2, 5, 14}) {
            for (int unit = 0; unit < k + 2; unit++) {
                for (int at = 0; at < 64; at++) {
                    TwinParity x = Rows.filled(k);
                    int before = x.get(k + which, at);
                    x.spoil(k + which, 0, 64, 8);
                    Rows.spoilTo(x, k + which, at, before);
                    due.is("check() of parity " + which + " in " + k, x.check(), k + which);
                    Rows.spoilTo(x, unit, at, x.get(unit, at) ^ 77);
                    int want = unit == k + which ? unit : TwinParity.MANY;
                    due.is("check() with " + unit + " at " + at, x.check(), want);
                }
            }
        }
    }

    private static void offByData() {
        for (int unit = 0; unit < 4; unit++) {
            for (int other = 0; other < 6; other++) {
                for (int at = 0; at < 64; at++) {
                    TwinParity x = Rows.filled(4);
                    int before = x.get(unit, at);
                    x.spoil(unit, 0, 64, 8);
                    Rows.spoilTo(x, unit, at, before);
                    due.is("check() of " + unit, x.check(), unit);
                    Rows.spoilTo(x, other, at, x.get(other, at) ^ 77);
                    due.is("check() of " + unit + " with " + other + " at " + at, x.check(),
                        other == unit ? unit : TwinParity.MANY);
                }
            }
        }
    }
}
