/** Promises 3 (put), 4 (spoil) and 5 (make). */
public final class ChangeTest {
    private static final Due due = new Due("ChangeTest");
    private static final int MIN = Integer.MIN_VALUE, MAX = Integer.MAX_VALUE;

    public static void main(String[] args) {
        putBytes();
        putParities();
        putKeepsTheDifference();
        putBesideLostUnits();
        putBad();
        spoilBytes();
        spoilNothingElse();
        spoilBad();
        make();
        makeBad();
        due.finish();
    }

    private static void putBytes() {
        for (int n = 1; n <= 8; n++) {
            TwinParity x = new TwinParity();
            x.put(1, 8, 8, -1L);
            due.is("put(1, 8, " + n + ", ..)", x.put(1, 8, n, 0x8877665544332211L), n);
            for (int i = 0; i < 8; i++) {
                due.is("get behind put of " + n, x.get(1, 8 + i), i < n ? 0x11 * (i + 1) : 255);
            }
            due.is("get before it", x.get(1, 7), 0);
            due.is("get after it", x.get(1, 16), 0);
            due.is("check()", x.check(), TwinParity.FITS);
        }
        TwinParity x = new TwinParity();
        due.is("put(0, 56, 8, -2)", x.put(0, 56, 8, -2L), 8);
        due.is("put(0, 63, 1, 256 + 9)", x.put(0, 63, 1, 265L), 1);
        due.is("word(0, 7)", x.word(0, 7), 0x09FFFFFFFFFFFFFEL);
    }

    private static void putParities() {
        TwinParity x = new TwinParity();
        x.begin(14);
        for (int unit = 0; unit < 14; unit++) {
            x.begin(14);
            due.is("put(" + unit + ", ..)", x.put(unit, 3, 1, 0xC5), 1);
            due.is("P behind put in " + unit, x.get(14, 3), 0xC5);
            due.is("Q behind put in " + unit, x.get(15, 3), Gf.times(Gf.power(unit), 0xC5));
            due.is("check()", x.check(), TwinParity.FITS);
            x.put(unit, 3, 1, 0xC5);
            due.is("P behind the same put again", x.get(14, 3), 0xC5);
        }
        x.begin(2);
        due.is("put in P", x.put(2, 0, 1, 1), TwinParity.BAD);
        due.is("put in Q", x.put(3, 0, 1, 1), TwinParity.BAD);
    }

    private static void putKeepsTheDifference() {
        TwinParity x = new TwinParity();
        x.spoil(4, 0, 64, 11);
        x.spoil(5, 0, 64, 12);
        int p = x.get(4, 20);
        int q = x.get(5, 20);
        x.put(3, 20, 1, 0x5A);
        due.is("spoilt P behind put", x.get(4, 20), p ^ 0x5A);
        due.is("spoilt Q behind put", x.get(5, 20), q ^ Gf.times(8, 0x5A));
        due.is("check() behind put", x.check(), TwinParity.MANY);
    }

    private static void putBesideLostUnits() {
        for (int lost = 0; lost < 6; lost++) {
            TwinParity x = new TwinParity();
            x.put(lost & 3, 0, 8, 0x0123456789ABCDEFL);
            x.lose(lost);
            int unit = (lost + 1) & 3;
            due.is("put beside lost " + lost, x.put(unit, 0, 8, 0x1122334455667788L), 8);
            due.is("word of it", x.word(unit, 0), 0x1122334455667788L);
            due.is("mend()", x.mend(), 1);
            due.is("check() behind mend()", x.check(), TwinParity.FITS);
            if (lost < 4) {
                due.is("word of the mended", x.word(lost, 0), 0x0123456789ABCDEFL);
            }
        }
    }

    private static void putBad() {
        TwinParity x = new TwinParity();
        x.spoil(0, 0, 64, 1);
        x.spoil(4, 0, 64, 2);
        x.spoil(5, 0, 64, 3);
        x.lose(2);
        long[] before = Rows.words(x);
        int[][] wrong = {
            {4, 0, 1}, {5, 0, 1}, {6, 0, 1}, {-1, 0, 1}, {MIN, 0, 1}, {MAX, 0, 1}, {32, 0, 1}, {2, 0, 1},
            {0, -1, 1}, {0, 64, 1}, {0, 63, 2}, {0, 57, 8}, {0, MIN, 8}, {0, MAX, 8}, {0, MAX, 1}, {0, -1, 2},
            {0, 0, 0}, {0, 0, -1}, {0, 0, 9}, {0, 0, 64}, {0, 0, MIN}, {0, 0, MAX}, {0, MAX, MAX}, {0, 1, MAX},
            {0, MIN, MIN}, {0, 64, 0}, {0, 65, -1},
        };
        for (int[] w : wrong) {
            due.is("put(" + w[0] + ", " + w[1] + ", " + w[2] + ", ..)", x.put(w[0], w[1], w[2], 77), TwinParity.BAD);
        }
        due.same("put BAD", Rows.words(x), before);
        due.is("put(0, 63, 1, 1)", x.put(0, 63, 1, 1), 1);
    }

    private static void spoilBytes() {
        int[] seeds = {0, 1, 7, -9, MIN, MAX};
        for (int seed : seeds) {
            TwinParity x = new TwinParity();
            x.spoil(2, 0, 64, 99);
            due.is("spoil(2, 10, 50, " + seed + ")", x.spoil(2, 10, 50, seed), 50);
            long state = seed;
            for (int i = 0; i < 50; i++) {
                state = (state * 1103515245L + 12345L) & 0xFFFFFFFFL;
                due.is("byte " + i + " of seed " + seed, x.get(2, 10 + i), (state >> 16) & 255);
            }
        }
        // 1103515245 * 0 + 12345 has no bits from 16 on; with seed 1 it is 0x41C69E6D + 0x3039.
        TwinParity x = new TwinParity();
        x.spoil(0, 0, 1, 0);
        due.is("first byte of seed 0", x.get(0, 0), 0);
        x.spoil(0, 0, 1, 1);
        due.is("first byte of seed 1", x.get(0, 0), 0xC6);
    }

    private static void spoilNothingElse() {
        for (int unit = 0; unit < 6; unit++) {
            TwinParity x = new TwinParity();
            x.put(1, 0, 8, 123456789L);
            long[] before = Rows.words(x);
            due.is("spoil(" + unit + ", 8, 8, 3)", x.spoil(unit, 8, 8, 3), 8);
            long[] after = Rows.words(x);
            due.is("it changed", after[unit * 8 + 1] == 0 ? 1 : 0, 0);
            after[unit * 8 + 1] = before[unit * 8 + 1];
            due.same("spoil of " + unit, after, before);
        }
        TwinParity x = new TwinParity();
        due.is("spoil(5, 0, 64, 1)", x.spoil(5, 0, 64, 1), 64);
        due.is("spoil(5, 63, 1, 1)", x.spoil(5, 63, 1, 1), 1);
    }

    private static void spoilBad() {
        TwinParity x = new TwinParity();
        x.spoil(0, 0, 64, 1);
        x.lose(3);
        x.lose(5);
        long[] before = Rows.words(x);
        int[][] wrong = {
            {6, 0, 1}, {-1, 0, 1}, {MIN, 0, 1}, {MAX, 0, 1}, {32, 0, 1}, {3, 0, 1}, {5, 0, 1},
            {0, -1, 1}, {0, 64, 1}, {0, 63, 2}, {0, 1, 64}, {0, MAX, 64}, {0, MIN, 64}, {4, -1, 2},
            {0, 0, 0}, {0, 0, -1}, {0, 0, 65}, {0, 0, MAX}, {0, 0, MIN}, {0, -1, 65}, {0, 1, MAX}, {0, 64, 0},
        };
        for (int[] w : wrong) {
            due.is("spoil(" + w[0] + ", " + w[1] + ", " + w[2] + ", 4)", x.spoil(w[0], w[1], w[2], 4), TwinParity.BAD);
        }
        due.same("spoil BAD", Rows.words(x), before);
        due.is("spoil(4, 0, 64, 4)", x.spoil(4, 0, 64, 4), 64);
    }

    private static void make() {
        for (int k = 2; k <= 14; k++) {
            TwinParity x = new TwinParity();
            x.begin(k);
            for (int unit = 0; unit < k + 2; unit++) {
                x.spoil(unit, 0, 64, 1000 + unit);
            }
            due.is("make()", x.make(), 0);
            for (int at = 0; at < 64; at += 21) {
                int p = 0;
                int q = 0;
                for (int unit = 0; unit < k; unit++) {
                    p ^= x.get(unit, at);
                    q ^= Gf.times(Gf.power(unit), x.get(unit, at));
                }
                due.is("P behind make()", x.get(k, at), p);
                due.is("Q behind make()", x.get(k + 1, at), q);
            }
            due.is("check()", x.check(), TwinParity.FITS);
        }
        TwinParity x = new TwinParity();
        x.put(0, 0, 8, 987654321L);
        long[] before = Rows.words(x);
        due.is("make() of a row that fits", x.make(), 0);
        due.same("make() of a row that fits", Rows.words(x), before);
    }

    private static void makeBad() {
        for (int lost = 0; lost < 6; lost++) {
            TwinParity x = new TwinParity();
            x.spoil(0, 0, 64, 1);
            x.lose(lost);
            long[] before = Rows.words(x);
            due.is("make() without " + lost, x.make(), TwinParity.BAD);
            due.same("make() without " + lost, Rows.words(x), before);
            due.is("count(2)", x.count(2), lost);
        }
    }
}
