/** Promise 6: get. */
public final class Promise06GetTest {
    private static final Due due = new Due("Promise06GetTest");

    public static void main(String[] args) {
        due.sentence("A byte: 0 .. 255", Promise06GetTest::eachByte);
        due.sentence("Of a unit: the first one to Q, at the first place to the last", Promise06GetTest::eachPlace);
        due.sentence("It changes nothing", Promise06GetTest::changesNothing);
        due.sentence("BAD: there is none: no such unit", Promise06GetTest::noUnit);
        due.sentence("BAD: there is none: no such place", Promise06GetTest::noPlace);
        due.sentence("BAD: the unit is lost", Promise06GetTest::lost);
        due.finish();
    }

    private static void eachByte() {
        for (int value = 0; value < 256; value++) {
            TwinParity x = new TwinParity();
            x.put(0, 33, 1, value);
            due.is("get(0, 33) of " + value, x.get(0, 33), value);
            due.is("get(4, 33) of " + value, x.get(4, 33), value);
            due.is("get(5, 33) of " + value, x.get(5, 33), value);
            Rows.spoilTo(x, 3, 34, value);
            due.is("get(3, 34) of " + value, x.get(3, 34), value);
        }
    }

    private static void eachPlace() {
        for (int k = 2; k <= 14; k++) {
            for (int unit = 0; unit < k + 2; unit++) {
                for (int at = 0; at < 64; at += at == 0 || at == 62 ? 1 : 61) {
                    TwinParity x = Rows.empty(k);
                    x.spoil(unit, at, 1, 1);
                    due.is("get(" + unit + ", " + at + ") in " + k, x.get(unit, at), 0xC6);
                    due.is("then of another unit", x.get(unit == 0 ? 1 : unit - 1, at), 0);
                    due.is("then of another place", x.get(unit, at == 0 ? 1 : at - 1), 0);
                }
            }
        }
        TwinParity x = Rows.empty(3);
        x.spoil(2, 0, 64, 1);
        for (int at = 0; at < 64; at++) {
            due.is("get(2, " + at + ")", x.get(2, at), x.word(2, at / 8) >>> 8 * (at % 8) & 255);
        }
    }

    /** Read by word alone, which a row that was not asked takes likewise. */
    private static void changesNothing() {
        for (Rows.Kind kind : Rows.kinds()) {
            TwinParity x = kind.make().get();
            for (int i = 0; i < 100; i++) {
                x.get(i % 18 - 1, i % 66 - 1);
            }
            long[] untouched = Rows.words(kind.make().get(), kind.k());
            due.same(kind.name() + ": many calls of get", Rows.words(x, kind.k()), untouched);
            due.is(kind.name() + ": then mend()", x.mend(), kind.make().get().mend());
        }
    }

    private static void noUnit() {
        for (int unit : new int[] {-1, -2, -16, -32, -64, 16, 17, 32, 33, 64, 1 << 26, 1 << 30, Rows.MIN, Rows.MAX}) {
            due.leavesAll("get(" + unit + ", 0)", (x, k) -> x.get(unit, 0), TwinParity.BAD);
            due.leavesAll("get(" + unit + ", 63)", (x, k) -> x.get(unit, 63), TwinParity.BAD);
            due.leavesAll("get(" + unit + ", 64)", (x, k) -> x.get(unit, 64), TwinParity.BAD);
        }
        due.leavesAll("get(k + 2, 0)", (x, k) -> x.get(k + 2, 0), TwinParity.BAD);
        due.leavesAll("get(k + 3, 63)", (x, k) -> x.get(k + 3, 63), TwinParity.BAD);
        for (int k = 2; k <= 14; k++) {
            TwinParity x = Rows.filled(14);
            x.begin(k);
            due.is("get(" + (k + 2) + ", 0) in " + k, x.get(k + 2, 0), TwinParity.BAD);
        }
    }

    private static void noPlace() {
        for (int at : new int[] {-1, -2, -64, 64, 65, 128, 256, 1 << 26, Rows.MIN, Rows.MIN + 1, Rows.MAX}) {
            due.leavesAll("get(0, " + at + ")", (x, k) -> x.get(0, at), TwinParity.BAD);
            due.leavesAll("get(1, " + at + ")", (x, k) -> x.get(1, at), TwinParity.BAD);
            due.leavesAll("get of P, " + at, (x, k) -> x.get(k, at), TwinParity.BAD);
            due.leavesAll("get of Q, " + at, (x, k) -> x.get(k + 1, at), TwinParity.BAD);
        }
    }

    private static void lost() {
        for (int k : new int[] {2, 5, 14}) {
            for (int one = 0; one < k + 2; one++) {
                for (int other = 0; other < k + 2; other++) {
                    TwinParity x = Rows.without(Rows.filled(k), one, other);
                    for (int unit = 0; unit < k + 2; unit++) {
                        boolean lost = unit == one || unit == other;
                        int want = lost ? TwinParity.BAD : Rows.filled(k).get(unit, 63);
                        due.is("get(" + unit + ", 63) without " + one + " and " + other, x.get(unit, 63), want);
                    }
                    x.mend();
                    due.is("get(" + one + ", 63) when it is back", x.get(one, 63), Rows.filled(k).get(one, 63));
                }
            }
        }
    }
}
