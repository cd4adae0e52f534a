/** Promise 6: reading. */
public final class ReadingTest {
    private static final Check CHECK = new Check();

    public static void main(String[] args) {
        checkNoInstrument();
        for (int sort = 0; sort < 4; sort++) {
            checkNothingRead(sort);
            checkLatest(sort);
            checkKeptNoMore(sort);
            checkForgotten(sort);
        }
        checkBehindChain();
        checkBits();
        CHECK.end();
    }

    private static void checkNoInstrument() {
        CHECK.sentence("IndexOutOfBoundsException when there is no such instrument;");
        WeatherMast mast = Check.ofEachSort();
        for (int at : new int[] {-1, 4, 8, Integer.MIN_VALUE, Integer.MAX_VALUE}) {
            CHECK.refused("reading of instrument " + at, Check.INDEX, () -> mast.reading(at, 0));
        }
    }

    private static void checkNothingRead(int sort) {
        CHECK.sentence("then NoSuchElementException when there is none such,");
        WeatherMast mast = Check.ofEachSort();
        for (int i : new int[] {0, 1, -1, 15, 16, Integer.MIN_VALUE, Integer.MAX_VALUE}) {
            CHECK.refused("nothing was read", Check.NONE_SUCH, () -> mast.reading(sort, i));
        }
    }

    private static void checkLatest(int sort) {
        WeatherMast mast = Check.ofEachSort();
        for (int n = 1; n <= 20; n++) {
            mast.read(sort, n);
            int kept = Math.min(n, 16);
            CHECK.sentence("The i-th latest reading of an instrument (0: the latest).");
            for (int i = 0; i < kept; i++) {
                CHECK.due("reading " + i + " of " + n, n - i, mast.reading(sort, i));
            }
            CHECK.sentence("when there is none such,");
            for (int i : new int[] {kept, 16, -1}) {
                CHECK.refused("reading " + i + " of " + n, Check.NONE_SUCH, () -> mast.reading(sort, i));
            }
        }
    }

    private static void checkKeptNoMore(int sort) {
        CHECK.sentence("or it is kept no more.");
        WeatherMast mast = Check.ofEachSort();
        for (int n = 1; n <= 40; n++) {
            mast.read(sort, n);
        }
        CHECK.due("the last one that is kept", 25, mast.reading(sort, 15));
        for (int i : new int[] {16, 17, 31, 32, 39, 40, -1, -16, Integer.MIN_VALUE, Integer.MAX_VALUE}) {
            CHECK.refused("reading " + i + " of 40", Check.NONE_SUCH, () -> mast.reading(sort, i));
        }
    }

    private static void checkForgotten(int sort) {
        CHECK.sentence("when there is none such,");
        WeatherMast mast = Check.ofEachSort();
        for (int n = 1; n <= 20; n++) {
            mast.read(sort, n);
        }
        mast.forget(sort);
        CHECK.refused("forgotten", Check.NONE_SUCH, () -> mast.reading(sort, 0));
        mast.read(sort, 99);
        CHECK.due("the only one", 99, mast.reading(sort, 0));
        CHECK.refused("forgotten ahead of it", Check.NONE_SUCH, () -> mast.reading(sort, 1));
    }

    private static void checkBehindChain() {
        WeatherMast mast = Check.ofEachSort();
        mast.step(0, 1, 3);
        for (int n = 1; n <= 5; n++) {
            mast.read(0, n);
        }
        for (int i = 0; i < 5; i++) {
            CHECK.due("behind the chain", Math.max(3, 5 - i), mast.reading(0, i));
        }
    }

    private static void checkBits() {
        WeatherMast mast = Check.ofEachSort();
        mast.read(2, Check.bits(-1f) & 0xffff_ffffL);
        CHECK.due("of singles", Check.bits(-1f), mast.reading(2, 0));
        mast.read(3, Check.bits(-0.0));
        CHECK.due("of doubles", Check.bits(-0.0), mast.reading(3, 0));
        CHECK.refused("of doubles", Check.NONE_SUCH, () -> mast.reading(3, 1));
    }
}
