/** Promises 6 (get) and 7 (word). */
public final class ReadTest {
    private static final Due due = new Due("ReadTest");
    private static final int MIN = Integer.MIN_VALUE, MAX = Integer.MAX_VALUE;

    public static void main(String[] args) {
        readBoth();
        readBad();
        readLost();
        due.finish();
    }

    private static void readBoth() {
        TwinParity x = new TwinParity();
        x.put(2, 0, 8, 0xFFEEDDCCBBAA9988L);
        x.put(2, 56, 8, 0x8000000000000001L);
        due.is("word(2, 0)", x.word(2, 0), 0xFFEEDDCCBBAA9988L);
        due.is("word(2, 1)", x.word(2, 1), 0);
        due.is("word(2, 7)", x.word(2, 7), 0x8000000000000001L);
        due.is("word(4, 7)", x.word(4, 7), 0x8000000000000001L);
        due.is("get(2, 0)", x.get(2, 0), 0x88);
        due.is("get(2, 7)", x.get(2, 7), 0xFF);
        due.is("get(2, 8)", x.get(2, 8), 0);
        due.is("get(2, 63)", x.get(2, 63), 0x80);
        due.is("get(5, 63)", x.get(5, 63), Gf.times(4, 0x80));
        due.is("get(1, 0)", x.get(1, 0), 0);
        for (int unit = 0; unit < 6; unit++) {
            x.spoil(unit, 0, 64, 50 + unit);
            for (int i = 0; i < 8; i++) {
                long word = 0;
                for (int j = 0; j < 8; j++) {
                    word |= (long) x.get(unit, 8 * i + j) << 8 * j;
                }
                due.is("word(" + unit + ", " + i + ")", x.word(unit, i), word);
            }
        }
    }

    private static void readBad() {
        TwinParity x = new TwinParity();
        x.begin(2);
        for (int unit = 0; unit < 4; unit++) {
            x.spoil(unit, 0, 64, 60 + unit);
        }
        int[] units = {-1, 4, 5, 16, 32, MIN, MAX};
        for (int unit : units) {
            due.is("get(" + unit + ", 0)", x.get(unit, 0), TwinParity.BAD);
            due.is("word(" + unit + ", 0)", x.word(unit, 0), 0);
        }
        int[] places = {-1, 64, 65, 128, MIN, MAX};
        for (int at : places) {
            due.is("get(1, " + at + ")", x.get(1, at), TwinParity.BAD);
        }
        int[] words = {-1, 8, 9, MIN, MAX, MAX / 8 + 1, MIN / 8, 1 << 29};
        for (int i : words) {
            due.is("word(1, " + i + ")", x.word(1, i), 0);
        }
    }

    private static void readLost() {
        for (int unit = 0; unit < 6; unit++) {
            TwinParity x = new TwinParity();
            x.spoil(unit, 0, 64, 70);
            x.lose(unit);
            due.is("get of lost " + unit, x.get(unit, 5), TwinParity.BAD);
            for (int i = 0; i < 8; i++) {
                due.is("word of lost " + unit, x.word(unit, i), 0);
            }
            due.is("get beside lost " + unit, x.get(unit == 0 ? 1 : 0, 5), 0);
        }
    }
}
