import java.util.Arrays;

/** Promise 8: lose. */
public final class Promise08LoseTest {
    private static final Due due = new Due("Promise08LoseTest");

    public static void main(String[] args) {
        due.sentence("A unit is lost: 1, if it is the first", Promise08LoseTest::first);
        due.sentence("A unit is lost: 2, if it is the second", Promise08LoseTest::second);
        due.sentence("BAD: there is none", Promise08LoseTest::noUnit);
        due.sentence("BAD: it is lost, and no other", Promise08LoseTest::lostAlone);
        due.sentence("BAD: it is lost, and another one too", Promise08LoseTest::lostWithAnother);
        due.sentence("MANY: two are, and the unit is not", Promise08LoseTest::twoAre);
        due.sentence("Units that came back can be lost again", Promise08LoseTest::lostAgain);
        due.finish();
    }

    private static void first() {
        for (int k = 2; k <= 14; k++) {
            for (int unit = 0; unit < k + 2; unit++) {
                TwinParity x = Rows.filled(k);
                long[] want = Rows.state(x);
                due.is("lose(" + unit + ") in " + k, x.lose(unit), 1);
                takeOut(want, unit, 1, unit);
                due.same("lose(" + unit + ") in " + k, Rows.state(x), want);
            }
        }
    }

    private static void second() {
        for (int k = 2; k <= 14; k++) {
            for (int one = 0; one < k + 2; one++) {
                for (int other = 0; other < k + 2; other++) {
                    if (one != other) {
                        TwinParity x = Rows.filled(k);
                        long[] want = Rows.state(x);
                        x.lose(one);
                        due.is("lose(" + one + "), lose(" + other + ") in " + k, x.lose(other), 2);
                        takeOut(want, one, 1, one);
                        takeOut(want, other, 2, Math.min(one, other));
                        due.same("lose(" + one + "), lose(" + other + ") in " + k, Rows.state(x), want);
                    }
                }
            }
        }
    }

    /** Makes it the state with this unit lost, as one of so many. */
    private static void takeOut(long[] state, int unit, int many, int lowest) {
        state[1] = many;
        state[2] = lowest;
        Arrays.fill(state, 3 + 9 * unit, 12 + 9 * unit, 0);
        state[3 + 9 * unit] = 1;
    }

    private static void noUnit() {
        int[] wrong = {
            -1, -2, -16, -31, -32, -64, 16, 17, 31, 32, 33, 34, 64, 1 << 26, 1 << 30, Rows.MIN, Rows.MIN + 1, Rows.MAX,
        };
        for (int unit : wrong) {
            due.leavesAll("lose(" + unit + ")", (x, k) -> x.lose(unit), TwinParity.BAD);
        }
        due.leavesAll("lose(k + 2)", (x, k) -> x.lose(k + 2), TwinParity.BAD);
        due.leavesAll("lose(k + 3)", (x, k) -> x.lose(k + 3), TwinParity.BAD);
        for (int k = 2; k <= 14; k++) {
            due.is("lose(" + (k + 2) + ") in " + k, Rows.empty(k).lose(k + 2), TwinParity.BAD);
        }
    }

    private static Rows.Kind without(int k, int one, int other) {
        String name = k + " units, without " + one + " and " + other;
        return new Rows.Kind(name, k, () -> Rows.without(Rows.many(k), one, other));
    }

    private static void lostAlone() {
        for (int k = 2; k <= 14; k++) {
            for (int unit = 0; unit < k + 2; unit++) {
                int lost = unit;
                due.leaves(without(k, lost, lost), "lose(" + lost + ")", (x, units) -> x.lose(lost), TwinParity.BAD);
            }
        }
    }

    private static void lostWithAnother() {
        for (int k : new int[] {2, 5, 14}) {
            for (int one = 0; one < k + 2; one++) {
                for (int other = 0; other < k + 2; other++) {
                    if (one != other) {
                        int lost = one;
                        Rows.Kind kind = without(k, one, other);
                        due.leaves(kind, "lose(" + lost + ")", (x, units) -> x.lose(lost), TwinParity.BAD);
                    }
                }
            }
        }
    }

    private static void twoAre() {
        for (int k : new int[] {2, 5, 14}) {
            for (int one = 0; one < k + 2; one++) {
                for (int other = one + 1; other < k + 2; other++) {
                    for (int third = 0; third < k + 2; third++) {
                        if (third != one && third != other) {
                            int unit = third;
                            Rows.Kind kind = without(k, one, other);
                            due.leaves(kind, "lose(" + unit + ")", (x, units) -> x.lose(unit), TwinParity.MANY);
                        }
                    }
                }
            }
        }
    }

    private static void lostAgain() {
        for (Rows.Kind kind : Rows.lostKinds()) {
            TwinParity x = kind.make().get();
            x.mend();
            due.is(kind.name() + ": mend(), then lose(0)", x.lose(0), 1);
            due.is("then lose of P", x.lose(kind.k()), 2);
            due.is("then lose of Q", x.lose(kind.k() + 1), TwinParity.MANY);
            x.begin(kind.k());
            due.is(kind.name() + ": begin(), then lose of Q", x.lose(kind.k() + 1), 1);
            due.is("then lose(0)", x.lose(0), 2);
            due.is("then lose(1)", x.lose(1), TwinParity.MANY);
        }
    }
}
