import java.util.ArrayList;
import java.util.List;
import java.util.function.Supplier;

/** Rows to begin a test with, and what they hold. */
final class Rows {
    static final int MIN = Integer.MIN_VALUE, MAX = Integer.MAX_VALUE;

    /** A way to make a row of k data units, the same one each time. */
    record Kind(String name, int k, Supplier<TwinParity> make) {
    }

    /** A call on a row of k data units. */
    interface Call {
        long on(TwinParity x, int k);
    }

    private Rows() {
    }

    static TwinParity empty(int k) {
        TwinParity x = new TwinParity();
        x.begin(k);
        return x;
    }

    /** A row of k data units that fits, with bytes of all kinds. */
    static TwinParity filled(int k) {
        TwinParity x = empty(k);
        for (int unit = 0; unit < k; unit++) {
            x.spoil(unit, 0, 64, 31 * k + unit);
        }
        x.make();
        return x;
    }

    /** A filled row that is off by these units. */
    static TwinParity spoilt(int k, int... units) {
        TwinParity x = filled(k);
        for (int unit : units) {
            x.spoil(unit, 0, 64, 7000 + unit);
        }
        return x;
    }

    /** A row that is off by no single unit. */
    static TwinParity many(int k) {
        return spoilt(k, 0, 1, k, k + 1);
    }

    /** The row, when these units are lost. */
    static TwinParity without(TwinParity x, int... lost) {
        for (int unit : lost) {
            x.lose(unit);
        }
        return x;
    }

    /** Every kind of row: of few and of many units, that fits or not, with none, one or two lost. */
    static List<Kind> kinds() {
        List<Kind> kinds = wholeKinds();
        kinds.addAll(lostKinds());
        return kinds;
    }

    /** Those without lost units. */
    static List<Kind> wholeKinds() {
        List<Kind> kinds = fittingKinds();
        for (int k : new int[] {2, 5, 14}) {
            for (int unit : new int[] {0, k - 1, k, k + 1}) {
                kinds.add(new Kind(k + " units, off by " + unit, k, () -> spoilt(k, unit)));
            }
            kinds.add(new Kind(k + " units, off by many", k, () -> many(k)));
        }
        return kinds;
    }

    static List<Kind> fittingKinds() {
        List<Kind> kinds = new ArrayList<>();
        kinds.add(new Kind("new", 4, TwinParity::new));
        for (int k : new int[] {2, 5, 14}) {
            kinds.add(new Kind(k + " units, empty", k, () -> empty(k)));
            kinds.add(new Kind(k + " units, filled", k, () -> filled(k)));
        }
        return kinds;
    }

    /** Those with one or two lost units. */
    static List<Kind> lostKinds() {
        List<Kind> kinds = new ArrayList<>();
        for (int k : new int[] {2, 5, 14}) {
            int[][] losses = {{0}, {k - 1}, {k}, {k + 1}, {0, k - 1}, {k - 1, k}, {k + 1, 0}, {k + 1, k}};
            for (int[] lost : losses) {
                String name = k + " units, without " + lost[0] + (lost.length == 2 ? " and " + lost[1] : "");
                kinds.add(new Kind(name, k, () -> without(filled(k), lost)));
                kinds.add(new Kind(name + ", off by many", k, () -> without(many(k), lost)));
            }
        }
        return kinds;
    }

    /** All that can be read of a row: its length, which units are lost, and the words of the others. */
    static long[] state(TwinParity x) {
        int units = Math.max(0, Math.min(16, x.count(0)));
        long[] state = new long[3 + 9 * units];
        state[0] = x.count(0);
        state[1] = x.count(1);
        state[2] = x.count(2);
        for (int unit = 0; unit < units; unit++) {
            state[3 + 9 * unit] = x.get(unit, 0) < 0 ? 1 : 0;
            for (int i = 0; i < 8; i++) {
                state[4 + 9 * unit + i] = x.word(unit, i);
            }
        }
        return state;
    }

    /** The words of all units; those of lost ones are 0. */
    static long[] words(TwinParity x, int k) {
        long[] words = new long[(k + 2) * 8];
        for (int i = 0; i < words.length; i++) {
            words[i] = x.word(i / 8, i % 8);
        }
        return words;
    }

    /** The state of a row of k data units without lost ones, of which these are the bytes. */
    static long[] state(int k, int[][] bytes) {
        long[] state = new long[3 + 9 * (k + 2)];
        state[0] = k + 2;
        state[2] = TwinParity.BAD;
        for (int unit = 0; unit < k + 2; unit++) {
            for (int at = 0; at < 64; at++) {
                state[4 + 9 * unit + at / 8] |= (long) bytes[unit][at] << 8 * (at % 8);
            }
        }
        return state;
    }

    /** The bytes of a row without lost units, out of its words, which take fewer calls. */
    static int[][] bytes(TwinParity x, int k) {
        int[][] bytes = new int[k + 2][64];
        long[] words = words(x, k);
        for (int i = 0; i < words.length * 8; i++) {
            bytes[i / 64][i % 64] = (int) (words[i / 8] >>> 8 * (i % 8)) & 255;
        }
        return bytes;
    }

    /** What P has to have there. */
    static int sumP(int[][] bytes, int k, int at) {
        int sum = 0;
        for (int unit = 0; unit < k; unit++) {
            sum ^= bytes[unit][at];
        }
        return sum;
    }

    /** What Q has to have there. */
    static int sumQ(int[][] bytes, int k, int at) {
        int sum = 0;
        for (int unit = 0; unit < k; unit++) {
            sum ^= Gf.times(Gf.power(unit), bytes[unit][at]);
        }
        return sum;
    }

    /** Spoils one byte to this value, by a seed that is looked for. */
    static void spoilTo(TwinParity x, int unit, int at, int value) {
        for (int seed = 0; seed < 100000; seed++) {
            if (((1103515245 * seed + 12345) >>> 16 & 255) == value) {
                x.spoil(unit, at, 1, seed);
                return;
            }
        }
        throw new IllegalStateException("no seed for " + value);
    }
}
