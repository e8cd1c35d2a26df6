/** Promise 12: count. */
public final class Promise12CountTest {
    private static final Due due = new Due("Promise12CountTest");

    public static void main(String[] args) {
        due.sentence("0: how many units the row has, lost ones too", Promise12CountTest::units);
        due.sentence("1: how many are lost: none, one, two", Promise12CountTest::lost);
        due.sentence("2: the lowest one that is, whichever was lost first", Promise12CountTest::lowest);
        due.sentence("2: BAD if none is", Promise12CountTest::noneLost);
        due.sentence("BAD: another number", Promise12CountTest::another);
        due.sentence("It changes nothing", Promise12CountTest::changesNothing);
        due.finish();
    }

    private static void units() {
        for (int k = 2; k <= 14; k++) {
            TwinParity x = Rows.empty(k);
            due.is("count(0) in " + k, x.count(0), k + 2);
            x.lose(k);
            due.is("count(0) in " + k + " without one", x.count(0), k + 2);
            x.lose(0);
            due.is("count(0) in " + k + " without two", x.count(0), k + 2);
            x.begin(1);
            x.begin(15);
            due.is("count(0) behind BAD", x.count(0), k + 2);
        }
        due.is("count(0) of a new one", new TwinParity().count(0), 6);
    }

    private static void lost() {
        for (int k = 2; k <= 14; k++) {
            for (int one = 0; one < k + 2; one++) {
                for (int other = 0; other < k + 2; other++) {
                    TwinParity x = Rows.empty(k);
                    due.is("count(1) in " + k, x.count(1), 0);
                    x.lose(one);
                    due.is("count(1) without " + one, x.count(1), 1);
                    x.lose(other);
                    due.is("count(1) without " + one + " and " + other, x.count(1), one == other ? 1 : 2);
                    x.lose((one + 1) % (k + 2));
                    x.lose((one + 2) % (k + 2));
                    due.is("count(1) behind more", x.count(1), 2);
                    x.mend();
                    due.is("count(1) behind mend()", x.count(1), 0);
                }
            }
        }
    }

    private static void lowest() {
        for (int k = 2; k <= 14; k++) {
            for (int one = 0; one < k + 2; one++) {
                for (int other = 0; other < k + 2; other++) {
                    TwinParity x = Rows.empty(k);
                    x.lose(one);
                    due.is("count(2) without " + one, x.count(2), one);
                    x.lose(other);
                    due.is("count(2) without " + one + " and " + other, x.count(2), Math.min(one, other));
                }
            }
        }
    }

    private static void noneLost() {
        for (Rows.Kind kind : Rows.wholeKinds()) {
            due.leaves(kind, "count(2)", (x, k) -> x.count(2), TwinParity.BAD);
        }
        for (Rows.Kind kind : Rows.lostKinds()) {
            TwinParity x = kind.make().get();
            x.mend();
            due.is(kind.name() + ": mend(), then count(2)", x.count(2), TwinParity.BAD);
        }
    }

    private static void another() {
        int[] wrong = {-1, -2, -3, 3, 4, 16, 256, 257, 258, 65536, Rows.MIN, Rows.MIN + 1, Rows.MIN + 2, Rows.MAX};
        for (int which : wrong) {
            due.leavesAll("count(" + which + ")", (x, k) -> x.count(which), TwinParity.BAD);
        }
    }

    /** Read by word alone, which a row that was not asked takes likewise. */
    private static void changesNothing() {
        for (Rows.Kind kind : Rows.kinds()) {
            TwinParity x = kind.make().get();
            for (int i = 0; i < 50; i++) {
                x.count(i % 5 - 1);
            }
            long[] untouched = Rows.words(kind.make().get(), kind.k());
            due.same(kind.name() + ": many calls of count", Rows.words(x, kind.k()), untouched);
            due.is(kind.name() + ": then mend()", x.mend(), kind.make().get().mend());
        }
    }
}
