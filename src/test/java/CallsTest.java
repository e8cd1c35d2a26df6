import java.util.function.IntToLongFunction;

/** "An object is used for at most 512 calls after it has been made": the 512th is answered as the first. */
public final class CallsTest {
    private static final Due due = new Due("CallsTest");
    private static final int CALLS = 512;

    /** A call, by its number from 0 on. */
    private interface Round {
        long go(TwinParity x, int number);
    }

    public static void main(String[] args) {
        due.sentence("512 calls of begin", () -> all((x, i) -> x.begin(2 + i % 13), i -> 4 + i % 13));
        due.sentence("512 calls of put", () -> all((x, i) -> x.put(3, i % 57, 8, i), i -> 8));
        due.sentence("512 calls of spoil", () -> all((x, i) -> x.spoil(i % 6, 0, 64, i), i -> 64));
        due.sentence("512 calls of make", () -> all((x, i) -> x.make(), i -> 0));
        due.sentence("512 calls of get", CallsTest::get);
        due.sentence("512 calls of word", CallsTest::word);
        due.sentence("512 calls of lose", () -> all((x, i) -> x.lose(i % 4), CallsTest::lost));
        due.sentence("512 calls of mend", () -> all((x, i) -> x.mend(), i -> 0));
        due.sentence("512 calls of check", () -> all((x, i) -> x.check(), i -> TwinParity.FITS));
        due.sentence("512 calls of fix", () -> all((x, i) -> x.fix(), i -> TwinParity.FITS));
        due.sentence("512 calls of count", () -> all((x, i) -> x.count((i + 1) % 4), i -> new int[] {0, -1, -1, 6}[i % 4]));
        due.sentence("512 calls of product", () -> all((x, i) -> x.product(511 - i, 1, true), i -> i < 256 ? -1 : 511 - i));
        due.sentence("512 calls of power", () -> all((x, i) -> x.power(i * 255), i -> 1));
        due.sentence("512 calls that lose and mend a pair", CallsTest::loseAndMend);
        due.sentence("512 calls that spoil and fix", CallsTest::spoilAndFix);
        due.sentence("512 calls that are refused", CallsTest::refused);
        due.finish();
    }

    private static void all(Round round, IntToLongFunction want) {
        TwinParity x = new TwinParity();
        for (int i = 0; i < CALLS; i++) {
            due.is("call " + (i + 1), round.go(x, i), want.applyAsLong(i));
        }
    }

    private static long lost(int i) {
        return i < 2 ? i + 1 : i % 4 < 2 ? TwinParity.BAD : TwinParity.MANY;
    }

    /** The first call puts what the others read. */
    private static void get() {
        all((x, i) -> i == 0 ? x.put(3, 56, 8, -2L) : x.get(3, 56 + i % 8), i -> i == 0 ? 8 : i % 8 == 0 ? 254 : 255);
    }

    private static void word() {
        all((x, i) -> i == 0 ? x.put(3, 56, 8, -2L) : x.word(i % 4, 7), i -> i == 0 ? 8 : i % 4 == 3 ? -2L : 0);
    }

    /** One call to begin, 127 rounds of four, three at the end that read. */
    private static void loseAndMend() {
        for (int k = 2; k <= 14; k += 6) {
            TwinParity x = new TwinParity();
            x.begin(k);
            for (int round = 0; round < 127; round++) {
                due.is("put of round " + round, x.put(round % k, 56, 8, round * 0x123456789ABCDL), 8);
                due.is("lose of round " + round, x.lose(round % k), 1);
                due.is("lose of round " + round, x.lose((round + 1) % (k + 2)), 2);
                due.is("mend of round " + round, x.mend(), 2);
            }
            due.is("check() as call 510", x.check(), TwinParity.FITS);
            due.is("word as call 511", x.word(126 % k, 7), 126 * 0x123456789ABCDL);
            due.is("word as call 512", x.word(125 % k, 7), 125 * 0x123456789ABCDL);
        }
    }

    /** Two calls to begin, 170 rounds of three. */
    private static void spoilAndFix() {
        TwinParity x = new TwinParity();
        x.begin(14);
        x.put(13, 0, 8, -3L);
        for (int round = 0; round < 170; round++) {
            due.is("spoil of round " + round, x.spoil(round % 16, 0, 64, round), 64);
            due.is("fix of round " + round, x.fix(), round % 16);
            due.is("word of round " + round, x.word(13, 0), -3L);
        }
    }

    private static void refused() {
        TwinParity x = new TwinParity();
        x.spoil(0, 0, 1, 1);
        x.lose(4);
        x.lose(5);
        for (int i = 0; i < CALLS - 4; i++) {
            due.is("refused call " + i, refused(x, i), i % 8 == 5 ? TwinParity.MANY : TwinParity.BAD);
        }
        due.is("get(0, 0) as call 512", x.get(0, 0), 0xC6);
    }

    private static int refused(TwinParity x, int i) {
        switch (i % 8) {
            case 0: return x.begin(15);
            case 1: return x.put(4, 0, 1, 1);
            case 2: return x.spoil(5, 0, 1, 1);
            case 3: return x.make();
            case 4: return x.get(4, 0);
            case 5: return x.lose(0);
            case 6: return x.check();
            default: return x.fix();
        }
    }
}
