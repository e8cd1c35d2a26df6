/** Promise 3: put. */
public final class Promise03PutTest {
    private static final Due due = new Due("Promise03PutTest");
    private static final long VALUE = 0x8877665544332211L;

    public static void main(String[] args) {
        due.sentence("The n lowest bytes of v, the lowest first: n, of 1 .. 8", Promise03PutTest::lowestBytes);
        due.sentence("From a place on: the first one to the last one that has room", Promise03PutTest::eachPlace);
        due.sentence("They come to a data unit: the first one to the last one", Promise03PutTest::eachDataUnit);
        due.sentence("P and Q change by the difference", Promise03PutTest::eachDifference);
        due.sentence("By the difference of what was there: by none, if that is the same", Promise03PutTest::sameAgain);
        due.sentence("By the difference alone: the row stays off as it was", Promise03PutTest::staysOff);
        due.sentence("P is lost: Q alone changes", () -> parityLost(true, false));
        due.sentence("Q is lost: P alone changes", () -> parityLost(false, true));
        due.sentence("P and Q are lost: the unit alone changes", () -> parityLost(true, true));
        due.sentence("Another data unit is lost: it comes back as it was", Promise03PutTest::besideLostData);
        due.sentence("BAD: it is no data unit: there is none", Promise03PutTest::noUnit);
        due.sentence("BAD: it is no data unit: P neither", () -> noParity(0));
        due.sentence("BAD: it is no data unit: Q neither", () -> noParity(1));
        due.sentence("BAD: there are no such bytes: before the first", Promise03PutTest::beforeTheFirst);
        due.sentence("BAD: there are no such bytes: behind the last", Promise03PutTest::behindTheLast);
        due.sentence("BAD: n is below 1", Promise03PutTest::tooFew);
        due.sentence("BAD: n is above 8", Promise03PutTest::tooMany);
        due.sentence("BAD: the unit is lost", Promise03PutTest::lost);
        due.finish();
    }

    private static void lowestBytes() {
        for (int n = 1; n <= 8; n++) {
            TwinParity x = new TwinParity();
            x.put(1, 8, 8, -1L);
            due.is("put(1, 8, " + n + ", ..)", x.put(1, 8, n, VALUE), n);
            for (int i = 0; i < 8; i++) {
                due.is("then get(1, " + (8 + i) + ")", x.get(1, 8 + i), i < n ? 0x11 * (i + 1) : 255);
            }
            due.is("put(1, 8, " + n + ", -1)", x.put(1, 8, n, -1L), n);
            due.is("then word(1, 1)", x.word(1, 1), -1L);
            due.is("put(1, 8, " + n + ", 0)", x.put(1, 8, n, 0L), n);
            due.is("then word(1, 1)", x.word(1, 1), n == 8 ? 0 : -1L << 8 * n);
        }
    }

    private static void eachPlace() {
        for (int n = 1; n <= 8; n++) {
            for (int at = 0; at <= 64 - n; at++) {
                TwinParity x = Rows.filled(2);
                int[][] bytes = Rows.bytes(x, 2);
                due.is("put(1, " + at + ", " + n + ", ..)", x.put(1, at, n, VALUE), n);
                setBytes(bytes, 2, 1, at, n);
                due.same("put(1, " + at + ", " + n + ", ..)", Rows.state(x), Rows.state(2, bytes));
            }
        }
    }

    private static void eachDataUnit() {
        for (int k = 2; k <= 14; k++) {
            for (int unit = 0; unit < k; unit++) {
                TwinParity x = Rows.filled(k);
                int[][] bytes = Rows.bytes(x, k);
                due.is("put(" + unit + ", 57, 7, ..) in " + k, x.put(unit, 57, 7, VALUE), 7);
                setBytes(bytes, k, unit, 57, 7);
                due.same("put(" + unit + ", 57, 7, ..) in " + k, Rows.state(x), Rows.state(k, bytes));
                due.is("then check()", x.check(), TwinParity.FITS);
            }
        }
    }

    /** What a row that fits has behind put(unit, at, n, VALUE). */
    private static void setBytes(int[][] bytes, int k, int unit, int at, int n) {
        for (int i = at; i < at + n; i++) {
            bytes[unit][i] = 0x11 * (i - at + 1);
            bytes[k][i] = Rows.sumP(bytes, k, i);
            bytes[k + 1][i] = Rows.sumQ(bytes, k, i);
        }
    }

    private static void eachDifference() {
        for (int unit = 0; unit < 14; unit++) {
            for (int d = 0; d < 256; d++) {
                TwinParity x = Rows.empty(14);
                x.put(unit, 5, 1, 0xC5);
                x.put(unit, 5, 1, 0xC5 ^ d);
                due.is("P behind put in " + unit, x.get(14, 5), 0xC5 ^ d);
                due.is("Q behind put in " + unit, x.get(15, 5), Gf.times(Gf.power(unit), 0xC5 ^ d));
            }
        }
    }

    private static void sameAgain() {
        for (Rows.Kind kind : Rows.wholeKinds()) {
            due.leaves(kind, "put(1, 56, 8, the same)", (x, k) -> x.put(1, 56, 8, x.word(1, 7)), 8);
            due.leaves(kind, "put(0, 0, 8, other bytes) and back", Promise03PutTest::putAndBack, 8);
        }
    }

    private static long putAndBack(TwinParity x, int k) {
        long before = x.word(0, 0);
        x.put(0, 0, 8, ~before);
        return x.put(0, 0, 8, before);
    }

    private static void staysOff() {
        TwinParity x = new TwinParity();
        x.spoil(4, 0, 64, 11);
        x.spoil(5, 0, 64, 12);
        int p = x.get(4, 20);
        int q = x.get(5, 20);
        x.put(3, 20, 1, 0x5A);
        due.is("spoilt P behind put", x.get(4, 20), p ^ 0x5A);
        due.is("spoilt Q behind put", x.get(5, 20), q ^ Gf.times(8, 0x5A));
        due.is("then check()", x.check(), TwinParity.MANY);
        for (int off = 0; off < 7; off++) {
            for (int unit = 0; unit < 5; unit++) {
                x = Rows.spoilt(5, off);
                due.is("put in " + unit + " of a row off by " + off, x.put(unit, 8, 8, VALUE), 8);
                due.is("then check()", x.check(), off);
            }
        }
    }

    /** The parity that is left follows; a lost one comes back by what all units have then. */
    private static void parityLost(boolean p, boolean q) {
        for (int k : new int[] {2, 4, 14}) {
            for (int unit = 0; unit < k; unit++) {
                TwinParity x = Rows.spoilt(k, k, k + 1);
                int[][] bytes = Rows.bytes(x, k);
                int[] lost = p && q ? new int[] {k, k + 1} : new int[] {p ? k : k + 1};
                Rows.without(x, lost);
                due.is("put(" + unit + ", 61, 1, 9) without a parity", x.put(unit, 61, 1, 9), 1);
                int difference = bytes[unit][61] ^ 9;
                due.is("then get", x.get(unit, 61), 9);
                due.is("then get of P", x.get(k, 61), p ? TwinParity.BAD : bytes[k][61] ^ difference);
                due.is("then get of Q", x.get(k + 1, 61),
                    q ? TwinParity.BAD : bytes[k + 1][61] ^ Gf.times(Gf.power(unit), difference));
                due.is("then count(1)", x.count(1), lost.length);
                due.is("then count(2)", x.count(2), lost[0]);
                bytes[unit][61] = 9;
                due.is("then mend()", x.mend(), lost.length);
                due.is("then get of P", p ? x.get(k, 61) : 0, p ? Rows.sumP(bytes, k, 61) : 0);
                due.is("then get of Q", q ? x.get(k + 1, 61) : 0, q ? Rows.sumQ(bytes, k, 61) : 0);
            }
        }
    }

    private static void besideLostData() {
        for (int lost = 0; lost < 5; lost++) {
            for (int other = 0; other < 7; other++) {
                for (int unit = 0; unit < 5; unit++) {
                    if (unit != lost && unit != other) {
                        TwinParity x = Rows.filled(5);
                        int[][] bytes = Rows.bytes(x, 5);
                        Rows.without(x, lost, other);
                        due.is("put in " + unit + " without " + lost, x.put(unit, 30, 5, VALUE), 5);
                        setBytes(bytes, 5, unit, 30, 5);
                        x.mend();
                        due.same("put without " + lost + " and " + other, Rows.state(x), Rows.state(5, bytes));
                    }
                }
            }
        }
    }

    private static void noUnit() {
        for (int unit : new int[] {-1, -2, -16, -32, -64, 16, 17, 32, 33, 64, 1 << 26, 1 << 30, Rows.MIN, Rows.MAX}) {
            due.leavesAll("put(" + unit + ", 0, 1, ..)", (x, k) -> x.put(unit, 0, 1, VALUE), TwinParity.BAD);
            due.leavesAll("put(" + unit + ", 56, 8, ..)", (x, k) -> x.put(unit, 56, 8, VALUE), TwinParity.BAD);
        }
        due.leavesAll("put(k + 2, 0, 1, ..)", (x, k) -> x.put(k + 2, 0, 1, VALUE), TwinParity.BAD);
        due.leavesAll("put(k + 3, 0, 8, ..)", (x, k) -> x.put(k + 3, 0, 8, VALUE), TwinParity.BAD);
    }

    private static void noParity(int which) {
        for (int k = 2; k <= 14; k++) {
            TwinParity x = Rows.filled(k);
            long[] before = Rows.state(x);
            due.is("put in parity " + which + " of " + k, x.put(k + which, 0, 1, VALUE), TwinParity.BAD);
            due.same("put in parity " + which + " of " + k, Rows.state(x), before);
        }
        due.leavesAll("put in parity " + which, (x, k) -> x.put(k + which, 0, 8, VALUE), TwinParity.BAD);
        due.leavesAll("put in parity " + which, (x, k) -> x.put(k + which, 63, 1, VALUE), TwinParity.BAD);
    }

    private static void beforeTheFirst() {
        for (int n = 1; n <= 8; n++) {
            int few = n;
            for (int at : new int[] {-1, -n, -8, -64, Rows.MIN, Rows.MIN + 8, Rows.MIN / 64}) {
                String call = "put(1, " + at + ", " + n + ", ..)";
                due.leavesAll(call, (x, k) -> x.put(1, at, few, VALUE), TwinParity.BAD);
            }
        }
    }

    private static void behindTheLast() {
        for (int n = 1; n <= 8; n++) {
            int few = n;
            for (int at : new int[] {65 - n, 64, 65, 128, 256, Rows.MAX, Rows.MAX - n, Rows.MAX - n + 1}) {
                String call = "put(0, " + at + ", " + n + ", ..)";
                due.leavesAll(call, (x, k) -> x.put(0, at, few, VALUE), TwinParity.BAD);
            }
        }
    }

    private static void tooFew() {
        for (int n : new int[] {0, -1, -8, -64, Rows.MIN, Rows.MIN + 1, Rows.MIN + 8}) {
            for (int at : new int[] {0, 1, 56, 63, 64, 65}) {
                due.leavesAll("put(0, " + at + ", " + n + ", ..)", (x, k) -> x.put(0, at, n, VALUE), TwinParity.BAD);
            }
        }
    }

    private static void tooMany() {
        for (int n : new int[] {9, 10, 16, 64, 256 + 1, Rows.MAX, Rows.MAX - 1}) {
            for (int at : new int[] {0, 1, 55, 63}) {
                due.leavesAll("put(0, " + at + ", " + n + ", ..)", (x, k) -> x.put(0, at, n, VALUE), TwinParity.BAD);
            }
        }
    }

    private static void lost() {
        for (int k : new int[] {2, 5, 14}) {
            for (int lost = 0; lost < k; lost++) {
                for (int other = 0; other < k + 2; other++) {
                    int unit = lost;
                    int also = other;
                    Rows.Kind kind = new Rows.Kind(k + " units, without " + lost + " and " + other, k,
                        () -> Rows.without(Rows.many(k), unit, also));
                    due.leaves(kind, "put(" + lost + ", 1, 8, ..)", (x, units) -> x.put(unit, 1, 8, VALUE), TwinParity.BAD);
                }
            }
        }
    }
}
