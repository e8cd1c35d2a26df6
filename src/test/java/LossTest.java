/** Promises 8 (lose) and 9 (mend). */
public final class LossTest {
    private static final Due due = new Due("LossTest");

    public static void main(String[] args) {
        loseAndCount();
        loseBad();
        mendEachOne();
        mendEachTwo();
        mendNone();
        mendOneOfSpoilt();
        mendTwoOfSpoilt();
        due.finish();
    }

    private static void loseAndCount() {
        for (int one = 0; one < 6; one++) {
            for (int other = 0; other < 6; other++) {
                TwinParity x = Rows.filled(4);
                due.is("lose(" + one + ")", x.lose(one), 1);
                due.is("then lose(" + other + ")", x.lose(other), one == other ? TwinParity.BAD : 2);
                due.is("then count(1)", x.count(1), one == other ? 1 : 2);
                due.is("then count(2)", x.count(2), Math.min(one, other));
            }
        }
    }

    private static void loseBad() {
        int[] wrong = {-1, 6, 7, 16, 31, 32, 33, Integer.MIN_VALUE, Integer.MAX_VALUE};
        TwinParity x = Rows.filled(4);
        long[] before = Rows.words(x);
        for (int unit : wrong) {
            due.is("lose(" + unit + ") of none", x.lose(unit), TwinParity.BAD);
        }
        due.is("count(1)", x.count(1), 0);
        due.same("lose BAD", Rows.words(x), before);
        x.lose(0);
        x.lose(4);
        before = Rows.words(x);
        for (int unit : wrong) {
            due.is("lose(" + unit + ") of two", x.lose(unit), TwinParity.BAD);
        }
        for (int unit = 0; unit < 6; unit++) {
            due.is("lose(" + unit + ") of two", x.lose(unit), unit == 0 || unit == 4 ? TwinParity.BAD : TwinParity.MANY);
        }
        due.is("count(1)", x.count(1), 2);
        due.same("lose MANY", Rows.words(x), before);
    }

    private static void mendEachOne() {
        for (int k = 2; k <= 14; k++) {
            for (int unit = 0; unit < k + 2; unit++) {
                TwinParity x = Rows.filled(k);
                long[] before = Rows.words(x);
                x.lose(unit);
                due.is("mend() of " + unit + " in " + k, x.mend(), 1);
                due.is("count(1)", x.count(1), 0);
                due.same("mend() of " + unit + " in " + k, Rows.words(x), before);
            }
        }
    }

    private static void mendEachTwo() {
        for (int k = 2; k <= 14; k++) {
            for (int one = 0; one < k + 2; one++) {
                for (int other = 0; other < k + 2; other++) {
                    if (one != other) {
                        mendTwo(k, one, other);
                    }
                }
            }
        }
    }

    private static void mendTwo(int k, int one, int other) {
        TwinParity x = Rows.filled(k);
        long[] before = Rows.words(x);
        // What a lost unit has matters for nothing, so it may be spoilt before.
        x.spoil(one, 0, 64, 3);
        x.spoil(other, 0, 64, 4);
        x.lose(one);
        x.lose(other);
        String call = "mend() of " + one + " and " + other + " in " + k;
        due.is(call, x.mend(), 2);
        due.is("count(1)", x.count(1), 0);
        due.is("check()", x.check(), TwinParity.FITS);
        due.same(call, Rows.words(x), before);
    }

    private static void mendNone() {
        TwinParity x = Rows.filled(3);
        x.spoil(0, 0, 64, 9);
        x.spoil(4, 0, 64, 9);
        long[] before = Rows.words(x);
        due.is("mend() of none", x.mend(), 0);
        due.same("mend() of none", Rows.words(x), before);
    }

    private static void mendOneOfSpoilt() {
        TwinParity x = Rows.filled(4);
        x.spoil(5, 0, 64, 9);
        long[] before = Rows.words(x);
        x.lose(2);
        due.is("mend() of data beside spoilt Q", x.mend(), 1);
        due.same("mend() of data beside spoilt Q", Rows.words(x), before);
        due.is("check()", x.check(), 5);
        x.lose(4);
        due.is("mend() of P beside spoilt Q", x.mend(), 1);
        due.same("mend() of P beside spoilt Q", Rows.words(x), before);

        x = Rows.filled(4);
        int p = x.get(4, 0);
        x.spoil(4, 0, 1, 1);
        int mixed = x.get(1, 0) ^ p ^ x.get(4, 0);
        before = Rows.words(x);
        x.lose(5);
        due.is("mend() of Q beside spoilt P", x.mend(), 1);
        due.same("mend() of Q beside spoilt P", Rows.words(x), before);
        x.lose(1);
        due.is("mend() of data beside spoilt P", x.mend(), 1);
        due.is("get(1, 0)", x.get(1, 0), mixed);
        due.is("word(4, 0)", x.word(4, 0), before[32]);
        due.is("word(5, 0)", x.word(5, 0), before[40]);
    }

    private static void mendTwoOfSpoilt() {
        for (int one = 0; one < 6; one++) {
            for (int other = one + 1; other < 6; other++) {
                TwinParity x = Rows.filled(4);
                for (int unit = 0; unit < 6; unit++) {
                    x.spoil(unit, 5, 40, 77 + unit);
                }
                long[] before = Rows.words(x);
                x.lose(one);
                x.lose(other);
                String call = "mend() of spoilt " + one + " and " + other;
                due.is(call, x.mend(), 2);
                due.is("check()", x.check(), TwinParity.FITS);
                long[] after = Rows.words(x);
                for (int i = 0; i < 48; i++) {
                    boolean mended = i / 8 == one || i / 8 == other;
                    due.is(call + ", word " + i, after[i], mended ? after[i] : before[i]);
                }
            }
        }
    }
}
