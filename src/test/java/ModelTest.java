/** Promises 1 to 12 together: many long runs of calls, each answer against the model's. */
public final class ModelTest {
    private static final int RUNS = 1500;
    /** With the words that are read at a run's end the object stays within its 512 calls. */
    private static final int CALLS = 350;
    private static final int[] ODD = {
        -1, Integer.MIN_VALUE, Integer.MAX_VALUE, 64, 65, 16, 15, 9, 8, 32, -64, 1 << 26, 1 << 29,
    };

    private final Due due;
    private final int run;
    private final TwinParity x = new TwinParity();
    private final ModelRow model = new ModelRow();
    private long state;

    private ModelTest(Due due, int run) {
        this.due = due;
        this.run = run;
        this.state = run * 0x9E3779B97F4A7C15L + 1;
    }

    public static void main(String[] args) {
        Due due = new Due("ModelTest");
        for (int run = 0; run < RUNS; run++) {
            new ModelTest(due, run).go();
        }
        due.finish();
    }

    private void go() {
        if (run % 3 != 0) {
            begin(2 + run % 13);
        }
        for (int i = 0; i < CALLS; i++) {
            step();
        }
        for (int i = 0; i < model.count(0) * 8; i++) {
            word(i / 8, i % 8);
        }
    }

    /** The same numbers for the same run each time. */
    private int below(int bound) {
        state ^= state << 13;
        state ^= state >>> 7;
        state ^= state << 17;
        return (int) ((state >>> 20) % bound);
    }

    private int mostly(int usual) {
        return below(25) == 0 ? ODD[below(ODD.length)] : usual;
    }

    private int unit() {
        return mostly(below(model.count(0)));
    }

    private void step() {
        int kind = below(100);
        if (kind < 22) {
            put();
        } else if (kind < 34) {
            spoil();
        } else if (kind < 48) {
            int unit = unit();
            is("lose(" + unit + ")", x.lose(unit), model.lose(unit));
        } else if (kind < 58) {
            is("mend()", x.mend(), model.mend());
        } else if (kind < 66) {
            is("check()", x.check(), model.check());
        } else if (kind < 76) {
            is("fix()", x.fix(), model.fix());
        } else if (kind < 80) {
            is("make()", x.make(), model.make());
        } else if (kind < 87) {
            int unit = unit();
            int at = mostly(below(64));
            is("get(" + unit + ", " + at + ")", x.get(unit, at), model.get(unit, at));
        } else if (kind < 94) {
            word(unit(), mostly(below(8)));
        } else if (kind < 99) {
            int which = mostly(below(3));
            is("count(" + which + ")", x.count(which), model.count(which));
        } else {
            begin(below(18));
        }
    }

    private void begin(int k) {
        is("begin(" + k + ")", x.begin(k), model.begin(k));
    }

    private void word(int unit, int i) {
        is("word(" + unit + ", " + i + ")", x.word(unit, i), model.word(unit, i));
    }

    private void put() {
        int unit = unit();
        int n = mostly(1 + below(8));
        int at = mostly(below(64));
        long v = state;
        is("put(" + unit + ", " + at + ", " + n + ", " + v + ")", x.put(unit, at, n, v), model.put(unit, at, n, v));
    }

    private void spoil() {
        int unit = unit();
        int n = mostly(1 + below(below(2) == 0 ? 3 : 64));
        int at = mostly(below(n > 0 && n < 64 ? 65 - n : 64));
        int seed = (int) state;
        is("spoil(" + unit + ", " + at + ", " + n + ", " + seed + ")",
            x.spoil(unit, at, n, seed), model.spoil(unit, at, n, seed));
    }

    private void is(String call, long got, long want) {
        due.is("run " + run + ": " + call, got, want);
    }
}
