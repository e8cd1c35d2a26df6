import java.util.ArrayList;
import java.util.List;

/** Rows that are off by a unit, or by no single one, for the tests of check and of fix. */
final class OffRows {
    private OffRows() {
    }

    private static Rows.Kind kind(String name, int k, int unit, int at, int n) {
        return new Rows.Kind(name + " in " + k, k, () -> {
            TwinParity x = Rows.filled(k);
            // Seeds differ, so that one of them is sure to change the byte.
            int before = x.get(unit, at);
            Rows.spoilTo(x, unit, at, before ^ 1);
            if (n > 1) {
                x.spoil(unit, at + 1, n - 1, 4711);
            }
            return x;
        });
    }

    /** Off by this unit: at one place, each of them, and at all. */
    static List<Rows.Kind> offBy(int k, int unit) {
        List<Rows.Kind> kinds = new ArrayList<>();
        for (int at = 0; at < 64; at++) {
            kinds.add(kind("off by " + unit + " at " + at, k, unit, at, 1));
        }
        kinds.add(kind("off by " + unit + " everywhere", k, unit, 0, 64));
        kinds.add(kind("off by " + unit + " within", k, unit, 20, 20));
        return kinds;
    }

    /** Two units at one place, at the first or the last, that look like no single one. */
    static List<Rows.Kind> manyAtOnePlace() {
        List<Rows.Kind> kinds = new ArrayList<>();
        for (int k : new int[] {2, 3, 5, 14}) {
            for (int one = 0; one < k + 2; one++) {
                for (int other = one + 1; other < k + 2; other++) {
                    for (int at = 0; at < 64; at += 63) {
                        kinds.add(two(k, new int[] {one, at}, new int[] {other, at}));
                    }
                }
            }
        }
        return kinds;
    }

    /** Two units at two places, each of which alone is off by a single one. */
    static List<Rows.Kind> manyAtTwoPlaces() {
        List<Rows.Kind> kinds = new ArrayList<>();
        int[][] places = {{0, 63}, {63, 0}, {0, 1}, {62, 63}};
        for (int k : new int[] {2, 3, 5, 14}) {
            for (int one = 0; one < k + 2; one++) {
                for (int other = 0; other < k + 2; other++) {
                    for (int[] at : places) {
                        if (one != other) {
                            kinds.add(two(k, new int[] {one, at[0]}, new int[] {other, at[1]}));
                        }
                    }
                }
            }
        }
        return kinds;
    }

    /** Each of both: a unit and a place. The difference is one whose sums are no power's product. */
    private static Rows.Kind two(int k, int[] one, int[] other) {
        String name = one[0] + " at " + one[1] + " and " + other[0] + " at " + other[1] + " in " + k;
        return new Rows.Kind(name, k, () -> {
            TwinParity x = Rows.filled(k);
            Rows.spoilTo(x, one[0], one[1], x.get(one[0], one[1]) ^ 1);
            int difference = one[1] == other[1] ? strange(k, one[0], other[0]) : 1;
            Rows.spoilTo(x, other[0], other[1], x.get(other[0], other[1]) ^ difference);
            return x;
        });
    }

    /** A change of the other unit that together with a change of 1 of the first looks like no unit's. */
    private static int strange(int k, int one, int other) {
        for (int d = 1; d < 256; d++) {
            int p = (one == k + 1 ? 0 : 1) ^ (other == k + 1 ? 0 : d);
            int q = weight(k, one) ^ Gf.times(weight(k, other), d);
            boolean single = p == 0 || q == 0;
            for (int unit = 0; unit < k; unit++) {
                single |= q == Gf.times(Gf.power(unit), p);
            }
            if (!single) {
                return d;
            }
        }
        throw new IllegalStateException("all look like one");
    }

    private static int weight(int k, int unit) {
        return unit < k ? Gf.power(unit) : unit == k ? 0 : 1;
    }

    /** At each of these places p is 0x35, and q its product with the power i, by P and Q alone. */
    static Rows.Kind power(int k, int i, int... places) {
        return new Rows.Kind("the power " + i + " in " + k, k, () -> {
            TwinParity x = Rows.filled(k);
            int power = i < 0 ? Gf.inverse(Gf.power(-i)) : Gf.power(i);
            for (int at : places) {
                Rows.spoilTo(x, k, at, x.get(k, at) ^ 0x35);
                Rows.spoilTo(x, k + 1, at, x.get(k + 1, at) ^ Gf.times(power, 0x35));
            }
            return x;
        });
    }
}
