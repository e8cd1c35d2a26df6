/** Counts the answers of one test that are not the ones that are due. */
final class Due {
    private final String test;
    private int looked;
    private int wrong;

    Due(String test) {
        this.test = test;
    }

    void is(String call, long got, long want) {
        looked++;
        if (got != want) {
            wrong++;
            System.out.println(test + ": " + call + " answered " + got + ", due is " + want);
        }
    }

    void same(String call, long[] got, long[] want) {
        is(call + ", how many words", got.length, want.length);
        for (int i = 0; i < Math.min(got.length, want.length); i++) {
            is(call + ", then word(" + i / 8 + ", " + i % 8 + ")", got[i], want[i]);
        }
    }

    void finish() {
        System.out.println(test + ": " + looked + " answers, " + wrong + " wrong");
        if (wrong != 0 || looked == 0) {
            System.exit(1);
        }
    }
}
