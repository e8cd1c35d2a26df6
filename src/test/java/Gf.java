/** The field, written otherwise than in the class: long multiplication first, then long division. */
final class Gf {
    private Gf() {
    }

    static int times(int a, int b) {
        int product = 0;
        for (int i = 0; i < 8; i++) {
            product ^= (a >> i & 1) * (b << i);
        }
        for (int i = 15; i >= 8; i--) {
            product ^= (product >> i & 1) * (0b100011101 << i - 8);
        }
        return product;
    }

    static int power(int i) {
        int power = 1;
        for (int k = 0; k < i; k++) {
            power = times(power, 2);
        }
        return power;
    }
}
