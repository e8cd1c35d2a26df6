/** Promise 14: power. */
public final class Promise14PowerTest {
    private static final Due due = new Due("Promise14PowerTest");

    public static void main(String[] args) {
        due.sentence("The power 0 is 1", () -> due.is("power(0)", new TwinParity().power(0), 1));
        due.sentence("The power i, for i of 0 and more", Promise14PowerTest::upwards);
        due.sentence("For i below 0 the one whose product with the power -i is 1", Promise14PowerTest::downwards);
        due.sentence("i where the powers come again, and beside", Promise14PowerTest::roundTheCircle);
        due.sentence("i as large as an int can be", Promise14PowerTest::largest);
        due.sentence("i as small as an int can be", Promise14PowerTest::smallest);
        due.sentence("It changes nothing", Promise14PowerTest::changesNothing);
        due.finish();
    }

    private static void upwards() {
        TwinParity x = new TwinParity();
        int want = 1;
        for (int i = 0; i < 512; i++) {
            due.is("power(" + i + ")", x.power(i), want);
            want = Gf.times(want, 2);
        }
    }

    private static void downwards() {
        TwinParity x = new TwinParity();
        for (int i = 1; i <= 512; i++) {
            below(x, -i);
        }
        due.is("power(-1)", new TwinParity().power(-1), 142);
    }

    private static void below(TwinParity x, int i) {
        due.is("power(" + i + ")", x.power(i), Gf.inverse(Gf.power(-(long) i)));
    }

    private static void roundTheCircle() {
        TwinParity x = new TwinParity();
        for (int turns : new int[] {1, 2, 3, 128, 257, 65793, 8421504}) {
            due.is("power(255 * " + turns + ")", x.power(255 * turns), 1);
            due.is("power(255 * " + turns + " + 1)", x.power(255 * turns + 1), 2);
            due.is("power(255 * " + turns + " - 1)", x.power(255 * turns - 1), 142);
            due.is("power(-255 * " + turns + ")", x.power(-255 * turns), 1);
            due.is("power(-255 * " + turns + " + 1)", x.power(-255 * turns + 1), 2);
            due.is("power(-255 * " + turns + " - 1)", x.power(-255 * turns - 1), 142);
        }
        for (int bit = 7; bit < 31; bit++) {
            for (int beside = -1; beside <= 1; beside++) {
                int i = (1 << bit) + beside;
                due.is("power(" + i + ")", x.power(i), Gf.power(i));
                below(x, -i);
            }
        }
    }

    private static void largest() {
        TwinParity x = new TwinParity();
        due.is("power(2147483647)", x.power(Rows.MAX), 204);
        for (int less = 0; less < 300; less++) {
            due.is("power(2147483647 - " + less + ")", x.power(Rows.MAX - less), Gf.power(Rows.MAX - less));
        }
    }

    private static void smallest() {
        TwinParity x = new TwinParity();
        due.is("power(-2147483648)", x.power(Rows.MIN), 204);
        for (int more = 0; more < 300; more++) {
            below(x, Rows.MIN + more);
        }
    }

    private static void changesNothing() {
        for (int i : new int[] {0, 1, -1, Rows.MIN, Rows.MAX}) {
            int want = i < 0 ? Gf.inverse(Gf.power(-(long) i)) : Gf.power(i);
            due.leavesAll("power(" + i + ")", (x, k) -> x.power(i), want);
        }
    }
}
