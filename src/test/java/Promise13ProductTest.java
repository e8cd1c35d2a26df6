/** Promise 13: product. */
public final class Promise13ProductTest {
    private static final Due due = new Due("Promise13ProductTest");
    private static final int[] NONE = {
        -1, -2, -128, -255, -256, 256, 257, 511, 512, 65536, Rows.MIN, Rows.MIN + 1, Rows.MAX,
    };

    public static void main(String[] args) {
        due.sentence("The product of two elements, 0 .. 255 each", Promise13ProductTest::products);
        due.sentence("Divided: the element whose product with b is a", Promise13ProductTest::quotients);
        due.sentence("Divided: 0 by another element is 0", Promise13ProductTest::zeroDivided);
        due.sentence("BAD: one is none: a", Promise13ProductTest::firstIsNone);
        due.sentence("BAD: one is none: b", Promise13ProductTest::secondIsNone);
        due.sentence("BAD: a is to be divided by 0, 0 too", Promise13ProductTest::dividedByZero);
        due.sentence("By 0 is BAD for the quotient alone: the product is 0", Promise13ProductTest::timesZero);
        due.sentence("It changes nothing", Promise13ProductTest::changesNothing);
        due.finish();
    }

    private static void products() {
        for (int a = 0; a < 256; a++) {
            TwinParity x = new TwinParity();
            for (int b = 0; b < 256; b++) {
                due.is("product(" + a + ", " + b + ", false)", x.product(a, b, false), Gf.times(a, b));
            }
        }
    }

    private static void quotients() {
        for (int b = 1; b < 256; b++) {
            TwinParity x = new TwinParity();
            int inverse = Gf.inverse(b);
            for (int a = 0; a < 256; a++) {
                due.is("product(" + a + ", " + b + ", true)", x.product(a, b, true), Gf.times(a, inverse));
            }
        }
    }

    private static void zeroDivided() {
        TwinParity x = new TwinParity();
        for (int b = 1; b < 256; b++) {
            due.is("product(0, " + b + ", true)", x.product(0, b, true), 0);
        }
    }

    private static void firstIsNone() {
        for (int a : NONE) {
            TwinParity x = new TwinParity();
            for (int b : new int[] {0, 1, 2, 128, 255, 256, -1}) {
                due.is("product(" + a + ", " + b + ", false)", x.product(a, b, false), TwinParity.BAD);
                due.is("product(" + a + ", " + b + ", true)", x.product(a, b, true), TwinParity.BAD);
            }
        }
    }

    private static void secondIsNone() {
        for (int b : NONE) {
            TwinParity x = new TwinParity();
            for (int a : new int[] {0, 1, 2, 128, 255, 256, -1}) {
                due.is("product(" + a + ", " + b + ", false)", x.product(a, b, false), TwinParity.BAD);
                due.is("product(" + a + ", " + b + ", true)", x.product(a, b, true), TwinParity.BAD);
            }
        }
    }

    private static void dividedByZero() {
        TwinParity x = new TwinParity();
        for (int a = 0; a < 256; a++) {
            due.is("product(" + a + ", 0, true)", x.product(a, 0, true), TwinParity.BAD);
        }
    }

    private static void timesZero() {
        TwinParity x = new TwinParity();
        for (int a = 0; a < 256; a++) {
            due.is("product(" + a + ", 0, false)", x.product(a, 0, false), 0);
            due.is("product(0, " + a + ", false)", x.product(0, a, false), 0);
        }
    }

    private static void changesNothing() {
        due.leavesAll("product(200, 100, false)", (x, k) -> x.product(200, 100, false), Gf.times(200, 100));
        due.leavesAll("product(1, 2, true)", (x, k) -> x.product(1, 2, true), 142);
        due.leavesAll("product(1, 0, true)", (x, k) -> x.product(1, 0, true), TwinParity.BAD);
        due.leavesAll("product(256, 1, false)", (x, k) -> x.product(256, 1, false), TwinParity.BAD);
        due.leavesAll("product(1, -1, true)", (x, k) -> x.product(1, -1, true), TwinParity.BAD);
    }
}
