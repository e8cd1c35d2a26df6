/** Promises 10 (check) and 11 (fix). */
public final class CheckTest {
    private static final Due due = new Due("CheckTest");

    public static void main(String[] args) {
        offByEachUnit();
        offAtOnePlace();
        fitsChangesNothing();
        manyByTwoUnits();
        manyByTwoPlaces();
        manyByAPowerOutsideTheRow();
        twoThatLookLikeOne();
        lostIsBad();
        due.finish();
    }

    private static void offByEachUnit() {
        for (int k = 2; k <= 14; k++) {
            for (int unit = 0; unit < k + 2; unit++) {
                TwinParity x = Rows.filled(k);
                x.spoil(unit, 1, 62, 5);
                long[] spoilt = Rows.words(x);
                due.is("check() of " + unit + " in " + k, x.check(), unit);
                due.same("check() of " + unit + " in " + k, Rows.words(x), spoilt);
            }
            for (int unit = 0; unit < k + 2; unit++) {
                TwinParity x = Rows.filled(k);
                long[] before = Rows.words(x);
                x.spoil(unit, 0, 64, 5);
                due.is("fix() of " + unit + " in " + k, x.fix(), unit);
                due.is("check() behind fix()", x.check(), TwinParity.FITS);
                due.same("fix() of " + unit + " in " + k, Rows.words(x), before);
            }
        }
    }

    private static void offAtOnePlace() {
        for (int at = 0; at < 64; at++) {
            for (int unit = 0; unit < 6; unit++) {
                TwinParity x = new TwinParity();
                x.spoil(unit, at, 1, 1);
                due.is("check() at " + at, x.check(), unit);
                due.is("fix() at " + at, x.fix(), unit);
                due.is("get at " + at, x.get(unit, at), 0);
                due.is("fix() again at " + at, x.fix(), TwinParity.FITS);
            }
        }
    }

    private static void fitsChangesNothing() {
        TwinParity x = Rows.filled(5);
        long[] before = Rows.words(x);
        due.is("check() that fits", x.check(), TwinParity.FITS);
        due.is("fix() that fits", x.fix(), TwinParity.FITS);
        due.same("fix() that fits", Rows.words(x), before);
    }

    private static void many(String call, TwinParity x) {
        long[] before = Rows.words(x);
        due.is("check() of " + call, x.check(), TwinParity.MANY);
        due.is("fix() of " + call, x.fix(), TwinParity.MANY);
        due.same("fix() of " + call, Rows.words(x), before);
    }

    private static void manyByTwoUnits() {
        for (int one = 0; one < 4; one++) {
            for (int other = one + 1; other < 4; other++) {
                TwinParity x = new TwinParity();
                x.begin(2);
                x.spoil(one, 0, 64, 3);
                x.spoil(other, 0, 64, 4);
                many(one + " and " + other, x);
            }
        }
    }

    private static void manyByTwoPlaces() {
        for (int one = 0; one < 6; one++) {
            for (int other = 0; other < 6; other++) {
                if (one != other) {
                    TwinParity x = new TwinParity();
                    x.spoil(one, 0, 1, 1);
                    x.spoil(other, 63, 1, 1);
                    many(one + " and " + other + " at two places", x);
                }
            }
        }
    }

    /** Spoils a data unit of a longer row's weight into P and Q, which a row of k has not got. */
    private static void manyByAPowerOutsideTheRow() {
        for (int k = 2; k < 14; k++) {
            TwinParity x = new TwinParity();
            x.begin(k);
            spoilTo(x, k, 0, 0x35);
            spoilTo(x, k + 1, 0, Gf.times(Gf.power(k), 0x35));
            many("the power " + k + " in " + k, x);
        }
    }

    private static void spoilTo(TwinParity x, int unit, int at, int value) {
        int seed = 0;
        while ((1103515245 * seed + 12345 >>> 16 & 255) != value && seed < 4096) {
            seed++;
        }
        x.spoil(unit, at, 1, seed);
        due.is("spoilt to", x.get(unit, at), value);
    }

    /** P and Q spoilt as if a data unit were: the row is off by that unit, and it is changed. */
    private static void twoThatLookLikeOne() {
        TwinParity x = new TwinParity();
        spoilTo(x, 4, 9, 0x35);
        spoilTo(x, 5, 9, Gf.times(8, 0x35));
        due.is("check() of P and Q as by 3", x.check(), 3);
        due.is("fix() of P and Q as by 3", x.fix(), 3);
        due.is("get(3, 9)", x.get(3, 9), 0x35);
        due.is("get(4, 9)", x.get(4, 9), 0x35);
        due.is("check() behind it", x.check(), TwinParity.FITS);
    }

    private static void lostIsBad() {
        for (int lost = 0; lost < 6; lost++) {
            for (int spoilt = 0; spoilt < 6; spoilt++) {
                TwinParity x = Rows.filled(4);
                x.spoil(spoilt, 0, 64, 8);
                x.lose(lost);
                long[] before = Rows.words(x);
                due.is("check() without " + lost, x.check(), TwinParity.BAD);
                due.is("fix() without " + lost, x.fix(), TwinParity.BAD);
                due.same("fix() without " + lost, Rows.words(x), before);
                due.is("count(2)", x.count(2), lost);
            }
        }
        TwinParity x = new TwinParity();
        x.lose(0);
        x.lose(5);
        due.is("check() without two", x.check(), TwinParity.BAD);
        due.is("fix() without two", x.fix(), TwinParity.BAD);
    }
}
