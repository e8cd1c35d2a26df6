/**
 * The document once more, by search instead of by reckoning: a lost unit's bytes are looked for
 * among all elements, and a row is off by a unit if some bytes are found with which it fits.
 */
final class ModelRow {
    private static final int[][] TIMES = new int[256][256];

    static {
        for (int a = 0; a < 256; a++) {
            for (int b = 0; b < 256; b++) {
                TIMES[a][b] = Gf.times(a, b);
            }
        }
    }

    private int k = 4;
    private int[][] units = new int[6][64];
    private boolean[] lost = new boolean[6];

    int begin(int k) {
        if (k < 2 || k > 14) {
            return -1;
        }
        this.k = k;
        units = new int[k + 2][64];
        lost = new boolean[k + 2];
        return k + 2;
    }

    int put(int unit, int at, int n, long v) {
        if (unit < 0 || unit >= k || lost[unit] || n < 1 || n > 8 || at < 0 || (long) at + n > 64) {
            return -1;
        }
        for (int i = 0; i < n; i++) {
            int value = (int) (v >> 8 * i & 255);
            int old = units[unit][at + i];
            units[unit][at + i] = value;
            units[k][at + i] ^= old ^ value;
            units[k + 1][at + i] ^= TIMES[Gf.power(unit)][old ^ value];
        }
        return n;
    }

    int spoil(int unit, int at, int n, int seed) {
        if (unit < 0 || unit >= k + 2 || lost[unit] || n < 1 || n > 64 || at < 0 || (long) at + n > 64) {
            return -1;
        }
        long x = seed;
        for (int i = 0; i < n; i++) {
            x = x * 1103515245L + 12345L & 0xFFFFFFFFL;
            units[unit][at + i] = (int) (x >> 16 & 255);
        }
        return n;
    }

    int make() {
        if (lostCount() != 0) {
            return -1;
        }
        for (int at = 0; at < 64; at++) {
            units[k][at] ^= p(at);
            units[k + 1][at] ^= q(at);
        }
        return 0;
    }

    int get(int unit, int at) {
        return unit < 0 || unit >= k + 2 || lost[unit] || at < 0 || at >= 64 ? -1 : units[unit][at];
    }

    long word(int unit, int i) {
        if (unit < 0 || unit >= k + 2 || lost[unit] || i < 0 || i >= 8) {
            return 0;
        }
        long word = 0;
        for (int j = 0; j < 8; j++) {
            word += (long) units[unit][8 * i + j] << 8 * j;
        }
        return word;
    }

    int lose(int unit) {
        if (unit < 0 || unit >= k + 2 || lost[unit]) {
            return -1;
        }
        if (lostCount() == 2) {
            return -3;
        }
        lost[unit] = true;
        return lostCount();
    }

    int mend() {
        int many = lostCount();
        int first = count(2);
        for (int at = 0; many == 1 && at < 64; at++) {
            searchOne(first, at);
        }
        int second = -1;
        for (int unit = 0; unit < k + 2; unit++) {
            second = lost[unit] ? unit : second;
        }
        for (int at = 0; many == 2 && at < 64; at++) {
            searchTwo(first, second, at);
        }
        lost = new boolean[k + 2];
        return many;
    }

    private void searchOne(int unit, int at) {
        for (int v = 0; v < 256; v++) {
            units[unit][at] = v;
            if ((unit == k + 1 ? q(at) : p(at)) == 0) {
                return;
            }
        }
        throw new IllegalStateException("nothing fits");
    }

    /** For each byte of the first the second has one at most: by p, or by q if it is Q. */
    private void searchTwo(int first, int second, int at) {
        for (int v = 0; v < 256; v++) {
            units[first][at] = v;
            units[second][at] ^= second == k + 1 ? q(at) : p(at);
            if (p(at) == 0 && q(at) == 0) {
                return;
            }
        }
        throw new IllegalStateException("nothing fits");
    }

    int check() {
        if (lostCount() != 0) {
            return -1;
        }
        boolean fits = true;
        for (int at = 0; at < 64; at++) {
            fits &= p(at) == 0 && q(at) == 0;
        }
        for (int unit = 0; !fits && unit < k + 2; unit++) {
            if (fitting(unit) != null) {
                return unit;
            }
        }
        return fits ? -2 : -3;
    }

    int fix() {
        int off = check();
        if (off >= 0) {
            units[off] = fitting(off);
        }
        return off;
    }

    /** The bytes of the unit with which the row fits; null if there are none. */
    private int[] fitting(int unit) {
        int[] kept = units[unit];
        int[] found = new int[64];
        units[unit] = found;
        boolean fits = true;
        for (int at = 0; fits && at < 64; at++) {
            fits = false;
            for (int v = 0; !fits && v < 256; v++) {
                found[at] = v;
                fits = p(at) == 0 && q(at) == 0;
            }
        }
        units[unit] = kept;
        return fits ? found : null;
    }

    int count(int which) {
        if (which == 0) {
            return k + 2;
        }
        if (which == 1) {
            return lostCount();
        }
        for (int unit = 0; which == 2 && unit < k + 2; unit++) {
            if (lost[unit]) {
                return unit;
            }
        }
        return -1;
    }

    private int lostCount() {
        int many = 0;
        for (boolean one : lost) {
            many += one ? 1 : 0;
        }
        return many;
    }

    private int p(int at) {
        int sum = units[k][at];
        for (int unit = 0; unit < k; unit++) {
            sum ^= units[unit][at];
        }
        return sum;
    }

    private int q(int at) {
        int sum = units[k + 1][at];
        int power = 1;
        for (int unit = 0; unit < k; unit++) {
            sum ^= TIMES[power][units[unit][at]];
            power = TIMES[power][2];
        }
        return sum;
    }
}
