import java.util.Arrays;

/** Promise 1: a new object. */
public final class Promise01NewTest {
    private static final Due due = new Due("Promise01NewTest");

    public static void main(String[] args) {
        due.sentence("As behind begin(4): 4 data units, then P and Q, and no more", Promise01NewTest::fourUnits);
        due.sentence("As behind begin(4): all bytes 0, none lost", Promise01NewTest::nothingInIt);
        due.sentence("As behind begin(4): it goes on likewise", Promise01NewTest::goesOnLikewise);
        due.finish();
    }

    private static void fourUnits() {
        TwinParity x = new TwinParity();
        due.is("count(0)", x.count(0), 6);
        due.is("put in the last data unit", x.put(3, 0, 1, 1), 1);
        due.is("put in P", x.put(4, 0, 1, 1), TwinParity.BAD);
        due.is("put in Q", x.put(5, 0, 1, 1), TwinParity.BAD);
        due.is("get of P", x.get(4, 0), 1);
        due.is("get of Q", x.get(5, 0), 8);
        due.is("get behind Q", x.get(6, 0), TwinParity.BAD);
    }

    private static void nothingInIt() {
        due.same("new", Rows.state(new TwinParity()), Rows.state(4, new int[6][64]));
        due.is("check()", new TwinParity().check(), TwinParity.FITS);
        due.is("count(1)", new TwinParity().count(1), 0);
        due.is("count(2)", new TwinParity().count(2), TwinParity.BAD);
        due.is("mend()", new TwinParity().mend(), 0);
    }

    private static void goesOnLikewise() {
        TwinParity used = Rows.without(Rows.many(14), 3, 15);
        used.begin(4);
        due.same("the same calls behind new and begin(4)", someCalls(new TwinParity()), someCalls(used));
    }

    private static long[] someCalls(TwinParity x) {
        long[] answers = {
            x.put(0, 3, 8, -77L), x.spoil(2, 60, 4, 5), x.check(), x.fix(), x.check(), x.lose(1), x.lose(5),
            x.lose(0), x.put(2, 1, 3, 123456L), x.mend(), x.spoil(4, 0, 64, 6), x.spoil(0, 9, 2, 6), x.fix(),
            x.make(), x.lose(6), x.lose(-1), x.count(0),
        };
        long[] state = Rows.state(x);
        long[] all = Arrays.copyOf(answers, answers.length + state.length);
        System.arraycopy(state, 0, all, answers.length, state.length);
        return all;
    }
}
