/** Promises 13 (product) and 14 (power). */
public final class FieldTest {
    private static final Due due = new Due("FieldTest");
    private static final int MIN = Integer.MIN_VALUE, MAX = Integer.MAX_VALUE;

    public static void main(String[] args) {
        for (int a = 0; a < 256; a++) {
            TwinParity x = new TwinParity();
            for (int b = 0; b < 256; b++) {
                products(x, a, b);
            }
        }
        productBad();
        powers();
        farPowers();
        due.finish();
    }

    private static void products(TwinParity x, int a, int b) {
        String pair = "(" + a + ", " + b + ", ";
        due.is("product" + pair + "false)", x.product(a, b, false), Gf.times(a, b));
        int quotient = x.product(a, b, true);
        if (b == 0) {
            due.is("product" + pair + "true)", quotient, TwinParity.BAD);
        } else {
            boolean element = quotient >= 0 && quotient < 256;
            due.is("product" + pair + "true), times b", element ? Gf.times(quotient, b) : quotient, a);
        }
    }

    private static void productBad() {
        TwinParity x = new TwinParity();
        int[] wrong = {-1, 256, 257, 512, MIN, MAX, -255};
        for (int w : wrong) {
            for (int other : new int[] {0, 1, 255, 256}) {
                due.is("product(" + w + ", " + other + ", false)", x.product(w, other, false), TwinParity.BAD);
                due.is("product(" + other + ", " + w + ", false)", x.product(other, w, false), TwinParity.BAD);
                due.is("product(" + w + ", " + other + ", true)", x.product(w, other, true), TwinParity.BAD);
                due.is("product(" + other + ", " + w + ", true)", x.product(other, w, true), TwinParity.BAD);
            }
        }
        due.is("product(0, 0, true)", x.product(0, 0, true), TwinParity.BAD);
        due.is("product(0, 0, false)", x.product(0, 0, false), 0);
    }

    private static void powers() {
        TwinParity x = new TwinParity();
        int want = 1;
        for (int i = 0; i < 400; i++) {
            due.is("power(" + i + ")", x.power(i), want);
            want = Gf.times(want, 2);
        }
        x = new TwinParity();
        for (int i = 0; i < 400; i++) {
            int inverse = x.power(-i);
            due.is("power(-" + i + "), times power(" + i + ")", Gf.times(inverse & 255, Gf.power(i)), 1);
            due.is("power(-" + i + ") is an element", inverse >> 8, 0);
        }
    }

    /** The powers come again after 255, so that of a far one is known by the rest. */
    private static void farPowers() {
        int[] far = {MAX, MAX - 1, MAX - 254, 1 << 30, 255 * 1000, 255 * 1000 + 8};
        TwinParity x = new TwinParity();
        for (int i : far) {
            due.is("power(" + i + ")", x.power(i), Gf.power(i % 255));
            due.is("power(" + -i + ")", x.power(-i), Gf.power(255 - i % 255));
        }
        due.is("power(-2147483648)", x.power(MIN), Gf.power(255 - (int) (2147483648L % 255)));
        due.is("power(-255)", x.power(-255), 1);
        due.is("power(-1)", x.power(-1), 142);
    }
}
