/** Rows to begin a test with, and what they hold. */
final class Rows {
    private Rows() {
    }

    /** A row of k data units that fits, with bytes of all kinds. */
    static TwinParity filled(int k) {
        TwinParity x = new TwinParity();
        x.begin(k);
        for (int unit = 0; unit < k; unit++) {
            x.spoil(unit, 0, 64, 31 * k + unit);
        }
        x.make();
        return x;
    }

    /** All words, so that a call that must change nothing can be told from one that does. */
    static long[] words(TwinParity x) {
        long[] words = new long[x.count(0) * 8];
        for (int i = 0; i < words.length; i++) {
            words[i] = x.word(i / 8, i % 8);
        }
        return words;
    }
}
