import java.util.Arrays;

/** Counts the answers of one test that are not the ones that are due. */
final class Due {
    private final String test;
    private int looked;
    private int wrong;

    Due(String test) {
        this.test = test;
    }

    /** Tests one sentence of the document; a test that looks at no answer fails too. */
    void sentence(String text, Runnable check) {
        int lookedBefore = looked;
        int wrongBefore = wrong;
        try {
            check.run();
        } catch (RuntimeException e) {
            fail(text + ": threw " + e);
        }
        if (looked == lookedBefore) {
            fail(text + ": no answer was looked at");
        }
        if (wrong != wrongBefore) {
            System.out.println(test + ": BROKEN: " + text);
        }
    }

    void is(String call, long got, long want) {
        looked++;
        if (got != want) {
            fail(call + " answered " + got + ", due is " + want);
        }
    }

    void same(String call, long[] got, long[] want) {
        looked++;
        if (!Arrays.equals(got, want)) {
            fail(call + ", then the row was " + Arrays.toString(got) + ", due is " + Arrays.toString(want));
        }
    }

    /** The answer, and that the row is as one that was made likewise and not called. */
    void leaves(Rows.Kind kind, String call, Rows.Call asked, long answer) {
        String told = kind.name() + ": " + call;
        TwinParity x = kind.make().get();
        TwinParity untouched = kind.make().get();
        is(told, asked.on(x, kind.k()), answer);
        same(told, Rows.state(x), Rows.state(untouched));
        // Behind mend() even a change that the lost units hid would be seen.
        is(told + ", then mend()", x.mend(), untouched.mend());
        same(told + ", then mend()", Rows.state(x), Rows.state(untouched));
    }

    /** The same for every kind of row. */
    void leavesAll(String call, Rows.Call asked, long answer) {
        for (Rows.Kind kind : Rows.kinds()) {
            leaves(kind, call, asked, answer);
        }
    }

    void finish() {
        System.out.println(test + ": " + looked + " answers, " + wrong + " wrong");
        if (wrong != 0 || looked == 0) {
            System.exit(1);
        }
    }

    private void fail(String text) {
        wrong++;
        System.out.println(test + ": " + text);
    }
}
