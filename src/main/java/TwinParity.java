import java.util.Arrays;

/**
 * A row of units with two parities, P and Q, over the field of 256 elements.
 *
 * All repairs go by the difference of the row (p and q at a place): a unit that takes the
 * difference on fits, whatever it held before, so lost units need not be cleared.
 */
public final class TwinParity {
    public static final int BAD = -1, FITS = -2, MANY = -3;

    private static final int FEWEST_DATA_UNITS = 2;
    private static final int MOST_DATA_UNITS = 14;
    private static final int DATA_UNITS_AT_FIRST = 4;
    private static final int PARITIES = 2;
    private static final int UNIT_BYTES = 64;
    private static final int WORD_BYTES = 8;

    private static final int ELEMENTS = 256;
    private static final int ELEMENT_BITS = 8;
    /** The powers 8, 4, 3, 2 and 0. */
    private static final int MODULUS = 0x11D;
    /** 2 makes all elements but 0, so its powers come again after this many. */
    private static final int CYCLE = ELEMENTS - 1;

    /** One unit behind the other, with room for the longest row. */
    private final int[] bytes;
    private int dataUnits;
    /** Bit u stands for unit u. */
    private int lostUnits;

    public TwinParity() {
        bytes = new int[(MOST_DATA_UNITS + PARITIES) * UNIT_BYTES];
        dataUnits = DATA_UNITS_AT_FIRST;
        lostUnits = 0;
    }

    public int begin(int k) {
        if (k < FEWEST_DATA_UNITS || k > MOST_DATA_UNITS) {
            return BAD;
        }
        dataUnits = k;
        lostUnits = 0;
        Arrays.fill(bytes, 0);
        return units();
    }

    public int put(int unit, int at, int n, long v) {
        if (unit >= dataUnits || !isThere(unit) || !isSpan(at, n, WORD_BYTES)) {
            return BAD;
        }
        for (int i = 0; i < n; i++) {
            int value = (int) (v >>> (8 * i)) & 255;
            changeWithParities(unit, at + i, byteAt(unit, at + i) ^ value);
        }
        return n;
    }

    public int spoil(int unit, int at, int n, int seed) {
        if (!isThere(unit) || !isSpan(at, n, UNIT_BYTES)) {
            return BAD;
        }
        int x = seed;
        for (int i = 0; i < n; i++) {
            x = 1103515245 * x + 12345;
            int value = (x >>> 16) & 255;
            change(unit, at + i, byteAt(unit, at + i) ^ value);
        }
        return n;
    }

    public int make() {
        if (lostUnits != 0) {
            return BAD;
        }
        restoreByP(unitP());
        restoreByQ(unitQ());
        return 0;
    }

    public int get(int unit, int at) {
        if (!isThere(unit) || !isSpan(at, 1, 1)) {
            return BAD;
        }
        return byteAt(unit, at);
    }

    public long word(int unit, int i) {
        if (!isThere(unit) || i < 0 || i >= UNIT_BYTES / WORD_BYTES) {
            return 0;
        }
        long word = 0;
        for (int j = WORD_BYTES - 1; j >= 0; j--) {
            word = (word << 8) | byteAt(unit, WORD_BYTES * i + j);
        }
        return word;
    }

    public int lose(int unit) {
        if (!isThere(unit)) {
            return BAD;
        }
        if (lostCount() == PARITIES) {
            return MANY;
        }
        lostUnits |= 1 << unit;
        return lostCount();
    }

    public int mend() {
        int first = lostFrom(0);
        if (first == BAD) {
            return 0;
        }
        int second = lostFrom(first + 1);
        lostUnits = 0;
        if (second == BAD) {
            restoreOne(first);
            return 1;
        }
        restoreTwo(first, second);
        return 2;
    }

    public int check() {
        if (lostUnits != 0) {
            return BAD;
        }
        int off = FITS;
        for (int at = 0; at < UNIT_BYTES; at++) {
            int here = offAt(at);
            if (here != FITS && off != FITS && here != off) {
                return MANY;
            }
            if (here != FITS) {
                off = here;
            }
        }
        return off;
    }

    public int fix() {
        int off = check();
        if (off >= 0) {
            restoreOne(off);
        }
        return off;
    }

    public int count(int which) {
        switch (which) {
            case 0:
                return units();
            case 1:
                return lostCount();
            case 2:
                return lostFrom(0);
            default:
                return BAD;
        }
    }

    public int product(int a, int b, boolean divides) {
        if (!isElement(a) || !isElement(b) || (divides && b == 0)) {
            return BAD;
        }
        return multiplied(a, divides ? inverse(b) : b);
    }

    public int power(int i) {
        return timesPower(1, Math.floorMod(i, CYCLE));
    }

    private int units() {
        return dataUnits + PARITIES;
    }

    private int unitP() {
        return dataUnits;
    }

    private int unitQ() {
        return dataUnits + 1;
    }

    /** The row has such a unit, and it is not lost. */
    private boolean isThere(int unit) {
        return unit >= 0 && unit < units() && !isLost(unit);
    }

    private boolean isLost(int unit) {
        return ((lostUnits >> unit) & 1) != 0;
    }

    private int lostCount() {
        return Integer.bitCount(lostUnits);
    }

    /** The lowest lost unit that is not below the first; BAD if there is none. */
    private int lostFrom(int first) {
        for (int unit = first; unit < units(); unit++) {
            if (isLost(unit)) {
                return unit;
            }
        }
        return BAD;
    }

    /** Looks at n first, so that no sum of both can run over. */
    private static boolean isSpan(int at, int n, int most) {
        return n >= 1 && n <= most && at >= 0 && at <= UNIT_BYTES - n;
    }

    private int byteAt(int unit, int at) {
        return bytes[unit * UNIT_BYTES + at];
    }

    private void change(int unit, int at, int difference) {
        bytes[unit * UNIT_BYTES + at] ^= difference;
    }

    private void changeWithParities(int unit, int at, int difference) {
        change(unit, at, difference);
        if (!isLost(unitP())) {
            change(unitP(), at, difference);
        }
        if (!isLost(unitQ())) {
            change(unitQ(), at, timesPower(difference, unit));
        }
    }

    private int differenceP(int at) {
        int sum = byteAt(unitP(), at);
        for (int unit = 0; unit < dataUnits; unit++) {
            sum ^= byteAt(unit, at);
        }
        return sum;
    }

    /** From the highest unit down, so that one doubling a unit gives each its power of 2. */
    private int differenceQ(int at) {
        int sum = 0;
        for (int unit = dataUnits - 1; unit >= 0; unit--) {
            sum = doubled(sum) ^ byteAt(unit, at);
        }
        return sum ^ byteAt(unitQ(), at);
    }

    /** FITS, the unit by which this place alone is off (never two of them), or MANY. */
    private int offAt(int at) {
        int p = differenceP(at);
        int q = differenceQ(at);
        if (q == 0) {
            return p == 0 ? FITS : unitP();
        }
        if (p == 0) {
            return unitQ();
        }
        int product = p;
        for (int unit = 0; unit < dataUnits; unit++) {
            if (product == q) {
                return unit;
            }
            product = doubled(product);
        }
        return MANY;
    }

    private void restoreOne(int unit) {
        if (unit == unitQ()) {
            restoreByQ(unit);
        } else {
            restoreByP(unit);
        }
    }

    /** A data unit goes first, by the parity that is left: the lost one is then made from all. */
    private void restoreTwo(int low, int high) {
        if (high == unitQ()) {
            restoreByP(low);
            restoreByQ(high);
        } else if (high == unitP()) {
            restoreByQ(low);
            restoreByP(high);
        } else {
            restoreDataPair(low, high);
        }
    }

    /** For a data unit or P. */
    private void restoreByP(int unit) {
        for (int at = 0; at < UNIT_BYTES; at++) {
            change(unit, at, differenceP(at));
        }
    }

    /** For a data unit or Q. */
    private void restoreByQ(int unit) {
        int factor = unit == unitQ() ? 1 : inverse(timesPower(1, unit));
        for (int at = 0; at < UNIT_BYTES; at++) {
            change(unit, at, multiplied(differenceQ(at), factor));
        }
    }

    /**
     * With x for low and y for high, p = x + y and q = 2^low x + 2^high y, so
     * q + 2^low p = (2^low + 2^high) y. The two powers differ, so their sum is not 0.
     */
    private void restoreDataPair(int low, int high) {
        int factor = inverse(timesPower(1, low) ^ timesPower(1, high));
        for (int at = 0; at < UNIT_BYTES; at++) {
            int p = differenceP(at);
            int y = multiplied(differenceQ(at) ^ timesPower(p, low), factor);
            change(low, at, p ^ y);
            change(high, at, y);
        }
    }

    private static boolean isElement(int a) {
        return a >= 0 && a < ELEMENTS;
    }

    private static int doubled(int a) {
        int twice = a << 1;
        return twice < ELEMENTS ? twice : twice ^ MODULUS;
    }

    /** The product of a and the power i of 2, i of 0 and more. */
    private static int timesPower(int a, int i) {
        int product = a;
        for (int k = 0; k < i; k++) {
            product = doubled(product);
        }
        return product;
    }

    private static int multiplied(int a, int b) {
        int sum = 0;
        int term = a;
        for (int bit = 0; bit < ELEMENT_BITS; bit++) {
            if (((b >> bit) & 1) != 0) {
                sum ^= term;
            }
            term = doubled(term);
        }
        return sum;
    }

    /** The 255th power of each element but 0 is 1, so the 254th (2 + 4 + .. + 128) undoes it. */
    private static int inverse(int a) {
        int square = a;
        int result = 1;
        for (int bit = 1; bit < ELEMENT_BITS; bit++) {
            square = multiplied(square, square);
            result = multiplied(result, square);
        }
        return result;
    }
}
