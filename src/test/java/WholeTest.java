/** Promise 8: whole. */
public final class WholeTest {
    private static final Check CHECK = new Check();

    public static void main(String[] args) {
        WeatherMast mast = Check.ofEachSort();
        CHECK.sentence("IndexOutOfBoundsException when there is no such instrument;");
        for (int at : new int[] {-1, 4, 8, Integer.MIN_VALUE, Integer.MAX_VALUE}) {
            CHECK.refused("whole of instrument " + at, Check.INDEX, () -> mast.whole(at));
        }
        CHECK.sentence("then NoSuchElementException when it has read nothing.");
        for (int sort = 0; sort < 4; sort++) {
            int asked = sort;
            CHECK.refused("nothing was read", Check.NONE_SUCH, () -> mast.whole(asked));
        }
        checkWhole();
        checkSingles();
        checkDoubles();
        CHECK.sentence("The latest reading of an instrument as an int:");
        mast.step(3, 0, 0);
        mast.read(3, Check.bits(-7.5));
        CHECK.due("behind the chain", 7, mast.whole(3));
        mast.read(3, Check.bits(2.0));
        CHECK.due("the latest one", 2, mast.whole(3));
        mast.forget(3);
        CHECK.refused("forgotten", Check.NONE_SUCH, () -> mast.whole(3));
        CHECK.end();
    }

    private static void checkWhole() {
        CHECK.sentence("what is beyond is the nearest int.");
        due(0, Integer.MIN_VALUE, Integer.MIN_VALUE);
        due(0, -1, -1);
        due(0, 1L << 32, 0);
        due(0, Integer.MAX_VALUE, Integer.MAX_VALUE);
        due(1, -1, -1);
        due(1, 1L << 32, Integer.MAX_VALUE);
        due(1, -1L << 32, Integer.MIN_VALUE);
        due(1, 0x7fff_ffffL, Integer.MAX_VALUE);
        due(1, 0x8000_0000L, Integer.MAX_VALUE);
        due(1, Integer.MIN_VALUE, Integer.MIN_VALUE);
        due(1, Integer.MIN_VALUE - 1L, Integer.MIN_VALUE);
        due(1, Integer.MIN_VALUE + 1L, Integer.MIN_VALUE + 1);
        due(1, Long.MAX_VALUE, Integer.MAX_VALUE);
        due(1, Long.MIN_VALUE, Integer.MIN_VALUE);
    }

    private static void checkSingles() {
        CHECK.sentence("cut towards 0, what is beyond is the nearest int.");
        float[] values = {0f, Float.MIN_VALUE, 0.5f, 0.99999994f, 1f, 1.5f, 1.9999999f, 2.5f, 8388607.5f, 8388609f,
            16777215f, 16777218f, 1073741824f, 2147483520f, 2147483648f, 4294967296f, 1e30f, Float.MAX_VALUE,
            Float.POSITIVE_INFINITY};
        for (float v : values) {
            due(2, Check.bits(v), (int) v);
            due(2, Check.bits(-v), (int) -v);
        }
    }

    private static void checkDoubles() {
        double[] values = {0, Double.MIN_VALUE, 0.5, 0.9999999999999999, 1, 1.5, 2.5, 2147483646.9999998, 2147483647,
            2147483647.5, 2147483648.0, 2147483648.5, 2147483649.0, 4294967297.0, 4503599627370497.0, 1e19, 1e300,
            Double.MAX_VALUE, Double.POSITIVE_INFINITY};
        for (double v : values) {
            due(3, Check.bits(v), (int) v);
            due(3, Check.bits(-v), (int) -v);
        }
    }

    private static void due(int sort, long bits, int want) {
        WeatherMast mast = new WeatherMast();
        mast.mount(sort);
        mast.read(0, bits);
        CHECK.due("sort " + sort + " whole of " + bits, want, mast.whole(0));
    }
}
