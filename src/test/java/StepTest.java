/** Promise 3: step, and the steps themselves. */
public final class StepTest {
    private static final Check CHECK = new Check();
    private static final long NAN32 = 0x7f80_0001L;
    private static final long NAN64 = 0x7ff0_0000_0000_0001L;

    public static void main(String[] args) {
        checkRefusals();
        checkNumbering();
        checkWhole();
        checkSingles();
        checkDoubles();
        checkOrder();
        CHECK.end();
    }

    private static void checkRefusals() {
        WeatherMast mast = Check.ofEachSort();
        CHECK.sentence("IndexOutOfBoundsException when there is no such instrument;");
        for (int at : new int[] {-1, 4, 8, Integer.MIN_VALUE, Integer.MAX_VALUE}) {
            CHECK.refused("step of instrument " + at, Check.INDEX, () -> mast.step(at, 0, 0));
        }
        CHECK.sentence("then IllegalArgumentException when there is no such step of its sort,");
        for (int sort = 0; sort < 4; sort++) {
            int asked = sort;
            for (int step : new int[] {-1, 8, Integer.MIN_VALUE, Integer.MAX_VALUE}) {
                CHECK.refused("step " + step, Check.ARGUMENT, () -> mast.step(asked, step, 0));
            }
        }
        for (int step = 3; step < 8; step++) {
            int asked = step;
            CHECK.refused("of counts " + step, Check.ARGUMENT, () -> mast.step(0, asked, 0));
            CHECK.refused("of tallies " + step, Check.ARGUMENT, () -> mast.step(1, asked, 0));
        }
        CHECK.sentence("or it takes K and K is no number;");
        for (int step : new int[] {1, 2, 7}) {
            for (long nan : new long[] {NAN32, 0x7fff_ffffL, 0xffff_ffffL, -1, 0x3ff0_0000_7fc0_0000L}) {
                CHECK.refused("K of singles", Check.ARGUMENT, () -> mast.step(2, step, nan));
            }
            for (long nan : new long[] {NAN64, -1, Long.MAX_VALUE, 0xfff0_0000_0000_0001L}) {
                CHECK.refused("K of doubles", Check.ARGUMENT, () -> mast.step(3, step, nan));
            }
        }
        for (int sort = 0; sort < 4; sort++) {
            CHECK.due("the first step in spite of refusals", 1, mast.step(sort, 0, 0));
        }
    }

    private static void checkNumbering() {
        for (int sort = 0; sort < 4; sort++) {
            WeatherMast mast = Check.ofEachSort();
            int asked = sort;
            CHECK.sentence("One more step behind an instrument's chain,");
            for (int i = 1; i <= 6; i++) {
                CHECK.due("step " + i, i, mast.step(sort, i % 3, 0));
            }
            CHECK.sentence("then IllegalStateException when it has six.");
            CHECK.refused("a seventh", Check.STATE, () -> mast.step(asked, 0, 0));
            CHECK.refused("a seventh that is none", Check.ARGUMENT, () -> mast.step(asked, 8, 0));
            if (sort >= 2) {
                CHECK.refused("a seventh without number", Check.ARGUMENT, () -> mast.step(asked, 1, -1));
            }
            CHECK.due("another's first step", 1, mast.step((sort + 1) % 4, 0, 0));
            mast.read(sort, 0);
            CHECK.due("steps done", 6, mast.count(3));
        }
        checkIdleK();
    }

    private static void checkIdleK() {
        CHECK.sentence("with K (which does not matter for steps without): how many steps it has.");
        WeatherMast mast = Check.ofEachSort();
        int[] without = {0, 3, 4, 5, 6};
        for (int i = 0; i < without.length; i++) {
            CHECK.due("K does not matter", i + 1, mast.step(2, without[i], -1));
            CHECK.due("K does not matter", i + 1, mast.step(3, without[i], NAN64));
        }
        CHECK.due("amount, down, up, nearest, sign", Check.bits(1f), mast.read(2, Check.bits(-2.5f)));
        CHECK.due("amount, down, up, nearest, sign", Check.bits(1.0), mast.read(3, Check.bits(-2.5)));
        CHECK.due("K of a single is its lowest bits", 6, mast.step(2, 1, 0x7ff0_0001_0000_0000L));
        CHECK.due("an infinity is a number", 6, mast.step(3, 1, Check.bits(Double.NEGATIVE_INFINITY)));
    }

    private static void checkWhole() {
        CHECK.sentence("STEPS make a number v another one;");
        due(0, 0, 0, -5, 5);
        due(0, 0, 0, 5, 5);
        due(0, 0, 0, 0, 0);
        due(0, 0, 0, Integer.MIN_VALUE, Integer.MIN_VALUE);
        due(0, 0, 0, 0x8000_0000L, Integer.MIN_VALUE);
        due(0, 0, 0, 0x1_ffff_ffffL, 1);
        due(1, 0, 0, Long.MIN_VALUE, Long.MIN_VALUE);
        due(1, 0, 0, Integer.MIN_VALUE, 0x8000_0000L);
        due(1, 0, 0, -5, 5);
        due(0, 1, 3, 2, 3);
        due(0, 1, 3, 4, 4);
        due(0, 1, -3, -4, -3);
        due(0, 1, 0xffff_fffdL, -4, -3);
        due(0, 1, 1L << 32, -4, 0);
        due(0, 2, 3, 2, 2);
        due(0, 2, 3, 4, 3);
        due(0, 2, -3, -4, -4);
        due(0, 2, 0xffff_fffdL, 4, -3);
        due(1, 1, Long.MIN_VALUE, -4, -4);
        due(1, 1, Long.MAX_VALUE, -4, Long.MAX_VALUE);
        due(1, 2, Long.MIN_VALUE, -4, Long.MIN_VALUE);
        due(1, 2, 1L << 32, 5, 5);
        due(1, 2, 5, 1L << 32, 5);
    }

    private static void checkSingles() {
        float big = 8388609f;
        float[] values = {0f, -0f, Float.MIN_VALUE, -Float.MIN_VALUE, 0.25f, -0.25f, 0.5f, -0.5f, 0.50000006f,
            -0.50000006f, 0.99999994f, -0.99999994f, 1f, -1f, 1.5f, -1.5f, 2.5f, -2.5f, 3.5f, -3.5f, 1.25f, -1.75f,
            2.75f, 4194303.5f, 4194304.5f, -4194303.5f, 8388607.5f, -8388607.5f, 8388608f, big, -big, 1e30f,
            Float.MAX_VALUE, -Float.MAX_VALUE, Float.POSITIVE_INFINITY, Float.NEGATIVE_INFINITY, 4095.9998f, 16777215f};
        for (float v : values) {
            due(2, 0, 0, Check.bits(v), Check.bits(Math.abs(v)));
            due(2, 3, 0, Check.bits(v), Check.bits((float) Math.floor(v)));
            due(2, 4, 0, Check.bits(v), Check.bits((float) Math.ceil(v)));
            due(2, 5, 0, Check.bits(v), Check.bits((float) Math.rint(v)));
            due(2, 6, 0, Check.bits(v), Check.bits(Math.signum(v)));
            for (float k : values) {
                due(2, 1, Check.bits(k), Check.bits(v), Check.bits(Math.max(v, k)));
                due(2, 2, Check.bits(k), Check.bits(v), Check.bits(Math.min(v, k)));
                due(2, 7, Check.bits(k), Check.bits(v), Check.bits(Math.copySign(v, k)));
            }
        }
    }

    private static void checkDoubles() {
        double[] values = {0, -0.0, Double.MIN_VALUE, -Double.MIN_VALUE, 0.25, -0.25, 0.5, -0.5, 0.5000000000000001,
            -0.5000000000000001, 0.9999999999999999, -0.9999999999999999, 1, -1, 1.5, -1.5, 2.5, -2.5, 3.5, -3.5,
            1.25, -1.75, 2.75, 4503599627370495.5, 4503599627370494.5, -4503599627370495.5, 2251799813685247.75,
            4503599627370496.0, 4503599627370497.0, -9007199254740993.0, 1e300, Double.MAX_VALUE, -Double.MAX_VALUE,
            Double.POSITIVE_INFINITY, Double.NEGATIVE_INFINITY, Double.MIN_NORMAL, -Double.MIN_NORMAL};
        for (double v : values) {
            due(3, 0, 0, Check.bits(v), Check.bits(Math.abs(v)));
            due(3, 3, 0, Check.bits(v), Check.bits(Math.floor(v)));
            due(3, 4, 0, Check.bits(v), Check.bits(Math.ceil(v)));
            due(3, 5, 0, Check.bits(v), Check.bits(Math.rint(v)));
            due(3, 6, 0, Check.bits(v), Check.bits(Math.signum(v)));
            for (double k : values) {
                due(3, 1, Check.bits(k), Check.bits(v), Check.bits(Math.max(v, k)));
                due(3, 2, Check.bits(k), Check.bits(v), Check.bits(Math.min(v, k)));
                due(3, 7, Check.bits(k), Check.bits(v), Check.bits(Math.copySign(v, k)));
            }
        }
    }

    private static void checkOrder() {
        WeatherMast mast = Check.ofEachSort();
        mast.step(0, 1, 3);
        mast.step(0, 2, 2);
        CHECK.due("at least 3, then at most 2", 2, mast.read(0, 1));
        mast.step(1, 2, 2);
        mast.step(1, 1, 3);
        CHECK.due("at most 2, then at least 3", 3, mast.read(1, 1));
        mast.step(3, 0, 0);
        mast.step(3, 3, 0);
        mast.step(3, 7, Check.bits(-0.0));
        CHECK.due("amount, down, like -0", Check.bits(-2.0), mast.read(3, Check.bits(-2.75)));
        mast.step(2, 3, 0);
        mast.step(2, 0, 0);
        CHECK.due("down, amount", Check.bits(3f), mast.read(2, Check.bits(-2.75f)));
    }

    /** One step alone, on a mast of its own. */
    private static void due(int sort, int step, long k, long v, long want) {
        WeatherMast mast = new WeatherMast();
        mast.mount(sort);
        mast.step(0, step, k);
        CHECK.due("sort " + sort + " step " + step + " K " + k + " of " + v, want, mast.read(0, v));
    }
}
