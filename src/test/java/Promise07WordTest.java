/** Promise 7: word. */
public final class Promise07WordTest {
    private static final Due due = new Due("Promise07WordTest");

    public static void main(String[] args) {
        due.sentence("Eight bytes, the first one lowest", Promise07WordTest::firstLowest);
        due.sentence("From 8 i on: the first word to the last, of each unit", Promise07WordTest::eachWord);
        due.sentence("It changes nothing", Promise07WordTest::changesNothing);
        due.sentence("0 if there are none: no such unit", Promise07WordTest::noUnit);
        due.sentence("0 if there are none: no such bytes", Promise07WordTest::noBytes);
        due.sentence("0 if the unit is lost", Promise07WordTest::lost);
        due.finish();
    }

    private static void firstLowest() {
        TwinParity x = new TwinParity();
        long[] words = {0x0123456789ABCDEFL, -1L, Long.MIN_VALUE, Long.MAX_VALUE, 1L, 0xFFL, 0x80L, 0xFFEEDDCCBBAA9988L};
        for (long word : words) {
            x.put(2, 8, 8, word);
            due.is("word(2, 1)", x.word(2, 1), word);
            due.is("word(4, 1)", x.word(4, 1), word);
        }
        for (int i = 0; i < 8; i++) {
            x.begin(4);
            x.put(0, 40 + i, 1, 0xF1);
            due.is("word(0, 5) of byte " + i, x.word(0, 5), 0xF1L << 8 * i);
            due.is("word(0, 4)", x.word(0, 4), 0);
            due.is("word(0, 6)", x.word(0, 6), 0);
        }
    }

    private static void eachWord() {
        for (int k = 2; k <= 14; k++) {
            for (int unit = 0; unit < k + 2; unit++) {
                TwinParity x = Rows.filled(k);
                for (int i = 0; i < 8; i++) {
                    long word = 0;
                    for (int j = 0; j < 8; j++) {
                        word |= (long) x.get(unit, 8 * i + j) << 8 * j;
                    }
                    due.is("word(" + unit + ", " + i + ") in " + k, x.word(unit, i), word);
                }
            }
        }
    }

    /** Read by get alone, which a row that was not asked takes likewise. */
    private static void changesNothing() {
        for (Rows.Kind kind : Rows.kinds()) {
            for (int unit = 0; unit < kind.k() + 2; unit++) {
                changesNothing(kind, unit);
            }
        }
    }

    private static void changesNothing(Rows.Kind kind, int unit) {
        TwinParity x = kind.make().get();
        TwinParity untouched = kind.make().get();
        for (int i = 0; i < 180; i++) {
            x.word(i % 18 - 1, i / 18 - 1);
        }
        for (int at = 0; at < 64; at++) {
            String call = kind.name() + ": many calls of word, then get(" + unit + ", " + at + ")";
            due.is(call, x.get(unit, at), untouched.get(unit, at));
        }
        due.is(kind.name() + ": many calls of word, then mend()", x.mend(), untouched.mend());
    }

    private static void noUnit() {
        for (int unit : new int[] {-1, -2, -16, -32, -64, 16, 17, 32, 33, 64, 1 << 26, 1 << 30, Rows.MIN, Rows.MAX}) {
            due.leavesAll("word(" + unit + ", 0)", (x, k) -> x.word(unit, 0), 0);
            due.leavesAll("word(" + unit + ", 7)", (x, k) -> x.word(unit, 7), 0);
            due.leavesAll("word(" + unit + ", 8)", (x, k) -> x.word(unit, 8), 0);
        }
        due.leavesAll("word(k + 2, 0)", (x, k) -> x.word(k + 2, 0), 0);
        due.leavesAll("word(k + 3, 7)", (x, k) -> x.word(k + 3, 7), 0);
    }

    /** Among them those whose 8 i runs over to a place that is there. */
    private static void noBytes() {
        int[] wrong = {
            -1, -2, -8, 8, 9, 16, 64, 1 << 29, (1 << 29) + 1, 1 << 30, 3 << 29, Rows.MIN, Rows.MIN + 1, Rows.MAX, -1 << 29,
        };
        for (int i : wrong) {
            due.leavesAll("word(0, " + i + ")", (x, k) -> x.word(0, i), 0);
            due.leavesAll("word(1, " + i + ")", (x, k) -> x.word(1, i), 0);
            due.leavesAll("word of P, " + i, (x, k) -> x.word(k, i), 0);
            due.leavesAll("word of Q, " + i, (x, k) -> x.word(k + 1, i), 0);
        }
    }

    private static void lost() {
        for (int k : new int[] {2, 5, 14}) {
            for (int one = 0; one < k + 2; one++) {
                for (int other = 0; other < k + 2; other++) {
                    TwinParity x = Rows.without(Rows.filled(k), one, other);
                    TwinParity whole = Rows.filled(k);
                    for (int i = 0; i < (k + 2) * 8; i++) {
                        boolean lost = i / 8 == one || i / 8 == other;
                        String call = "word(" + i / 8 + ", " + i % 8 + ") without " + one + " and " + other;
                        due.is(call, x.word(i / 8, i % 8), lost ? 0 : whole.word(i / 8, i % 8));
                    }
                    x.mend();
                    due.is("word(" + one + ", 7) when it is back", x.word(one, 7), whole.word(one, 7));
                }
            }
        }
    }
}
