/** The field, written otherwise than in the class: long multiplication first, then long division. */
final class Gf {
    private Gf() {
    }

    static int times(int a, int b) {
        int product = 0;
        for (int i = 0; i < 8; i++) {
            product ^= (a >> i & 1) * (b << i);
        }
        for (int i = 15; i >= 8; i--) {
            product ^= (product >> i & 1) * (0b100011101 << i - 8);
        }
        return product;
    }

    /** By squares, without knowing that the powers come again; for exponents beyond an int too. */
    static int power(long i) {
        int power = 1;
        int square = 2;
        for (long left = i; left > 0; left >>= 1) {
            power = (left & 1) == 1 ? times(power, square) : power;
            square = times(square, square);
        }
        return power;
    }

    /** The element whose product with a is 1, by search. */
    static int inverse(int a) {
        for (int b = 1; b < 256; b++) {
            if (times(a, b) == 1) {
                return b;
            }
        }
        throw new IllegalStateException("no inverse of " + a);
    }
}
