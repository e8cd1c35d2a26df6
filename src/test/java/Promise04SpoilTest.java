/** Promise 4: spoil. */
public final class Promise04SpoilTest {
    private static final Due due = new Due("Promise04SpoilTest");
    private static final int[] SEEDS = {
        0, 1, 2, 7, -1, -9, 255, 256, 65535, 65536, 0xFF0000, 0x1000000, 0x7FFF, 1 << 30, Rows.MIN, Rows.MIN + 1,
        Rows.MAX, Rows.MAX - 1,
    };

    public static void main(String[] args) {
        due.sentence("Byte i is the bits 16 .. 23 of x, an int that runs over", Promise04SpoilTest::bytesOfSeeds);
        due.sentence("x is at first the seed and changes before each byte", Promise04SpoilTest::changesBeforeEach);
        due.sentence("n bytes of 1 .. 64, from the first place on", Promise04SpoilTest::eachNumberFromTheFirst);
        due.sentence("n bytes of 1 .. 64, to the last place", Promise04SpoilTest::eachNumberToTheLast);
        due.sentence("Of any unit: data, P and Q; nothing else changes", Promise04SpoilTest::eachUnit);
        due.sentence("Of any unit that is not lost, beside lost ones", Promise04SpoilTest::besideLost);
        due.sentence("The bytes come to the unit, whatever was there", Promise04SpoilTest::whateverWasThere);
        due.sentence("BAD: there is no such unit", Promise04SpoilTest::noUnit);
        due.sentence("BAD: there are no such bytes: before the first", Promise04SpoilTest::beforeTheFirst);
        due.sentence("BAD: there are no such bytes: behind the last", Promise04SpoilTest::behindTheLast);
        due.sentence("BAD: n is below 1", Promise04SpoilTest::tooFew);
        due.sentence("BAD: n is above 64", Promise04SpoilTest::tooMany);
        due.sentence("BAD: the unit is lost", Promise04SpoilTest::lost);
        due.finish();
    }

    /** In a long, cut to 32 bits, so that it does not lean on how an int runs over. */
    private static int[] bytesOf(int seed) {
        int[] bytes = new int[64];
        long x = seed & 0xFFFFFFFFL;
        for (int i = 0; i < 64; i++) {
            x = x * 1103515245L + 12345L & 0xFFFFFFFFL;
            bytes[i] = (int) (x >> 16 & 255);
        }
        return bytes;
    }

    private static void bytesOfSeeds() {
        for (int seed : SEEDS) {
            TwinParity x = new TwinParity();
            due.is("spoil(2, 0, 64, " + seed + ")", x.spoil(2, 0, 64, seed), 64);
            int[] bytes = bytesOf(seed);
            for (int i = 0; i < 64; i++) {
                due.is("byte " + i + " of seed " + seed, x.get(2, i), bytes[i]);
            }
        }
    }

    /** Reckoned by hand: 12345 is 0x3039; 1103515245 is 0x41C64E6D; their sum 0x41C67EA6. */
    private static void changesBeforeEach() {
        int[][] firsts = {{0, 0x00}, {1, 0xC6}, {-1, 0x39}, {0xFF0000, 0x93}};
        for (int[] first : firsts) {
            TwinParity x = new TwinParity();
            x.spoil(0, 7, 1, first[0]);
            due.is("first byte of seed " + first[0], x.get(0, 7), first[1]);
        }
        // The second byte of a seed is the first one of what the seed became.
        for (int seed : SEEDS) {
            TwinParity x = new TwinParity();
            x.spoil(0, 0, 2, seed);
            x.spoil(1, 1, 1, 1103515245 * seed + 12345);
            due.is("second byte of seed " + seed, x.get(0, 1), x.get(1, 1));
        }
    }

    private static void eachNumberFromTheFirst() {
        for (int n = 1; n <= 64; n++) {
            spoilIn(4, 1, 0, n);
        }
    }

    private static void eachNumberToTheLast() {
        for (int n = 1; n <= 64; n++) {
            spoilIn(4, 2, 64 - n, n);
        }
    }

    private static void eachUnit() {
        for (int k = 2; k <= 14; k++) {
            for (int unit = 0; unit < k + 2; unit++) {
                spoilIn(k, unit, 0, 64);
                spoilIn(k, unit, 13, 40);
            }
        }
    }

    private static void spoilIn(int k, int unit, int at, int n) {
        TwinParity x = Rows.filled(k);
        int[][] bytes = Rows.bytes(x, k);
        String call = "spoil(" + unit + ", " + at + ", " + n + ", 321) in " + k;
        due.is(call, x.spoil(unit, at, n, 321), n);
        System.arraycopy(bytesOf(321), 0, bytes[unit], at, n);
        due.same(call, Rows.state(x), Rows.state(k, bytes));
    }

    private static void besideLost() {
        for (Rows.Kind kind : Rows.lostKinds()) {
            for (int unit = 0; unit < kind.k() + 2; unit++) {
                TwinParity x = kind.make().get();
                if (x.get(unit, 0) != TwinParity.BAD) {
                    long[] want = Rows.state(x);
                    TwinParity spoilt = new TwinParity();
                    spoilt.spoil(0, 0, 64, 99);
                    System.arraycopy(Rows.state(spoilt), 4, want, 4 + 9 * unit, 8);
                    due.is(kind.name() + ": spoil(" + unit + ", 0, 64, 99)", x.spoil(unit, 0, 64, 99), 64);
                    due.same(kind.name() + ": spoil(" + unit + ", 0, 64, 99)", Rows.state(x), want);
                }
            }
        }
    }

    private static void whateverWasThere() {
        for (int unit = 0; unit < 6; unit++) {
            TwinParity x = Rows.many(4);
            x.spoil(unit, 0, 64, 5);
            long[] once = Rows.state(x);
            due.is("spoil(" + unit + ", 0, 64, 5) again", x.spoil(unit, 0, 64, 5), 64);
            due.same("spoil(" + unit + ", 0, 64, 5) again", Rows.state(x), once);
        }
    }

    private static void noUnit() {
        for (int unit : new int[] {-1, -2, -16, -32, -64, 16, 17, 32, 33, 64, 1 << 26, 1 << 30, Rows.MIN, Rows.MAX}) {
            due.leavesAll("spoil(" + unit + ", 0, 1, 4)", (x, k) -> x.spoil(unit, 0, 1, 4), TwinParity.BAD);
            due.leavesAll("spoil(" + unit + ", 0, 64, 4)", (x, k) -> x.spoil(unit, 0, 64, 4), TwinParity.BAD);
        }
        due.leavesAll("spoil(k + 2, 0, 64, 4)", (x, k) -> x.spoil(k + 2, 0, 64, 4), TwinParity.BAD);
        due.leavesAll("spoil(k + 3, 63, 1, 4)", (x, k) -> x.spoil(k + 3, 63, 1, 4), TwinParity.BAD);
    }

    private static void beforeTheFirst() {
        for (int n : new int[] {1, 2, 8, 63, 64}) {
            for (int at : new int[] {-1, -n, -64, Rows.MIN, Rows.MIN + 64, Rows.MIN / 64}) {
                due.leavesAll("spoil(1, " + at + ", " + n + ", 4)", (x, k) -> x.spoil(1, at, n, 4), TwinParity.BAD);
            }
        }
    }

    private static void behindTheLast() {
        for (int n : new int[] {1, 2, 8, 9, 63, 64}) {
            for (int at : new int[] {65 - n, 64, 65, 128, Rows.MAX, Rows.MAX - n, Rows.MAX - n + 1}) {
                due.leavesAll("spoil(0, " + at + ", " + n + ", 4)", (x, k) -> x.spoil(0, at, n, 4), TwinParity.BAD);
            }
        }
    }

    private static void tooFew() {
        for (int n : new int[] {0, -1, -8, -64, Rows.MIN, Rows.MIN + 1, Rows.MIN + 64}) {
            for (int at : new int[] {0, 1, 63, 64, 65}) {
                due.leavesAll("spoil(0, " + at + ", " + n + ", 4)", (x, k) -> x.spoil(0, at, n, 4), TwinParity.BAD);
            }
        }
    }

    private static void tooMany() {
        for (int n : new int[] {65, 66, 128, 256 + 1, 65536 + 1, Rows.MAX, Rows.MAX - 1}) {
            for (int at : new int[] {-1, 0, 1, 63}) {
                due.leavesAll("spoil(0, " + at + ", " + n + ", 4)", (x, k) -> x.spoil(0, at, n, 4), TwinParity.BAD);
            }
        }
    }

    private static void lost() {
        for (int k : new int[] {2, 5, 14}) {
            for (int lost = 0; lost < k + 2; lost++) {
                for (int other = 0; other < k + 2; other++) {
                    int unit = lost;
                    int also = other;
                    Rows.Kind kind = new Rows.Kind(k + " units, without " + lost + " and " + other, k,
                        () -> Rows.without(Rows.many(k), unit, also));
                    due.leaves(kind, "spoil(" + lost + ", 0, 64, 4)", (x, units) -> x.spoil(unit, 0, 64, 4), TwinParity.BAD);
                }
            }
        }
    }
}
