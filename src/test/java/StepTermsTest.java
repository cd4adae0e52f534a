/** The terms' words on the eight steps, each at its edges. */
public final class StepTermsTest {
    private static final Check CHECK = new Check();
    private static final float UP32 = Float.POSITIVE_INFINITY;
    private static final double UP64 = Double.POSITIVE_INFINITY;

    public static void main(String[] args) {
        checkAmount();
        checkAtLeast();
        checkAtMost();
        checkWhoHasThem();
        checkDown();
        checkUp();
        checkNearest();
        checkThemselves();
        checkZeroFromBelow();
        checkSign();
        checkLike();
        CHECK.end();
    }

    private static void checkAmount() {
        CHECK.sentence("0 AMOUNT: v without its sign (of the least COUNT or TALLY itself).");
        due(0, 0, Integer.MIN_VALUE, Integer.MIN_VALUE);
        due(0, 0, Integer.MIN_VALUE + 1, Integer.MAX_VALUE);
        due(0, 0, -1, 1);
        due(0, 0, 0, 0);
        due(0, 0, Integer.MAX_VALUE, Integer.MAX_VALUE);
        due(1, 0, Long.MIN_VALUE, Long.MIN_VALUE);
        due(1, 0, Long.MIN_VALUE + 1, Long.MAX_VALUE);
        due(1, 0, Integer.MIN_VALUE, 1L << 31);
        due(1, 0, -1, 1);
        due(1, 0, Long.MAX_VALUE, Long.MAX_VALUE);
        dueSingles(0, -0f, 0f, 0f, 0f, -UP32, UP32, UP32, UP32, -Float.MIN_VALUE, Float.MIN_VALUE, -2.5f, 2.5f);
        dueDoubles(0, -0.0, 0, 0, 0, -UP64, UP64, UP64, UP64, -Double.MIN_VALUE, Double.MIN_VALUE, -2.5, 2.5);
    }

    private static void checkAtLeast() {
        CHECK.sentence("1 AT LEAST: the GREATER of v and K.");
        dueWith(0, 1, 3, 2, 3);
        dueWith(0, 1, 3, 3, 3);
        dueWith(0, 1, 3, 4, 4);
        dueWith(0, 1, Integer.MIN_VALUE, Integer.MAX_VALUE, Integer.MAX_VALUE);
        dueWith(0, 1, Integer.MAX_VALUE, Integer.MIN_VALUE, Integer.MAX_VALUE);
        dueWith(1, 1, Long.MIN_VALUE, Long.MAX_VALUE, Long.MAX_VALUE);
        dueWith(1, 1, Long.MAX_VALUE, Long.MIN_VALUE, Long.MAX_VALUE);
        dueWith(2, 1, Check.bits(-UP32), Check.bits(-Float.MAX_VALUE), Check.bits(-Float.MAX_VALUE));
        dueWith(2, 1, Check.bits(UP32), Check.bits(Float.MAX_VALUE), Check.bits(UP32));
        dueWith(2, 1, Check.bits(-1f), Check.bits(-2f), Check.bits(-1f));
        dueWith(3, 1, Check.bits(-UP64), Check.bits(-Double.MAX_VALUE), Check.bits(-Double.MAX_VALUE));
        dueWith(3, 1, Check.bits(UP64), Check.bits(Double.MAX_VALUE), Check.bits(UP64));
        dueWith(3, 1, Check.bits(-1.0), Check.bits(-2.0), Check.bits(-1.0));
    }

    private static void checkAtMost() {
        CHECK.sentence("2 AT MOST: the LESSER of v and K.");
        dueWith(0, 2, 3, 2, 2);
        dueWith(0, 2, 3, 3, 3);
        dueWith(0, 2, 3, 4, 3);
        dueWith(0, 2, Integer.MIN_VALUE, Integer.MAX_VALUE, Integer.MIN_VALUE);
        dueWith(0, 2, Integer.MAX_VALUE, Integer.MIN_VALUE, Integer.MIN_VALUE);
        dueWith(1, 2, Long.MIN_VALUE, Long.MAX_VALUE, Long.MIN_VALUE);
        dueWith(1, 2, Long.MAX_VALUE, Long.MIN_VALUE, Long.MIN_VALUE);
        dueWith(2, 2, Check.bits(-UP32), Check.bits(-Float.MAX_VALUE), Check.bits(-UP32));
        dueWith(2, 2, Check.bits(UP32), Check.bits(Float.MAX_VALUE), Check.bits(Float.MAX_VALUE));
        dueWith(2, 2, Check.bits(-1f), Check.bits(-2f), Check.bits(-2f));
        dueWith(3, 2, Check.bits(-UP64), Check.bits(-Double.MAX_VALUE), Check.bits(-UP64));
        dueWith(3, 2, Check.bits(UP64), Check.bits(Double.MAX_VALUE), Check.bits(Double.MAX_VALUE));
        dueWith(3, 2, Check.bits(-1.0), Check.bits(-2.0), Check.bits(-2.0));
    }

    private static void checkWhoHasThem() {
        CHECK.sentence("These are steps of all sorts, the further ones of SINGLES and DOUBLES alone:");
        for (int sort = 0; sort < 4; sort++) {
            for (int step = -1; step <= 8; step++) {
                WeatherMast mast = Check.ofEachSort();
                int at = sort;
                int asked = step;
                if (step >= 0 && step <= (sort < 2 ? 2 : 7)) {
                    CHECK.due("step " + step + " of sort " + sort, 1, mast.step(sort, step, 0));
                } else {
                    CHECK.refused("step " + step + " of sort " + sort, Check.ARGUMENT, () -> mast.step(at, asked, 0));
                }
            }
        }
    }

    private static void checkDown() {
        CHECK.sentence("3 DOWN: the greatest whole number that is not above v.");
        dueSingles(3, Float.MIN_VALUE, 0f, 0.99999994f, 0f, 1f, 1f, 1.9999999f, 1f, 2f, 2f, -Float.MIN_VALUE, -1f,
                -0.99999994f, -1f, -1f, -1f, -1.0000001f, -2f, -1.9999999f, -2f, 8388607.5f, 8388607f,
                -8388607.5f, -8388608f, 8388609f, 8388609f, Float.MAX_VALUE, Float.MAX_VALUE, 3.9999998f, 3f,
                -3.9999998f, -4f);
        dueDoubles(3, Double.MIN_VALUE, 0, 0.9999999999999999, 0, 1, 1, 1.9999999999999998, 1, 2, 2, -Double.MIN_VALUE, -1,
                -0.9999999999999999, -1, -1, -1, -1.0000000000000002, -2, -1.9999999999999998, -2,
                4503599627370495.5, 4503599627370495.0, -4503599627370495.5, -4503599627370496.0,
                4503599627370497.0, 4503599627370497.0, -Double.MAX_VALUE, -Double.MAX_VALUE, -3.9999999999999996, -4);
    }

    private static void checkUp() {
        CHECK.sentence("4 UP: the least whole number that is not below v.");
        dueSingles(4, Float.MIN_VALUE, 1f, 0.99999994f, 1f, 1f, 1f, 1.0000001f, 2f, 1.9999999f, 2f, -1f, -1f,
                -1.0000001f, -1f, -1.9999999f, -1f, 8388607.5f, 8388608f, -8388607.5f, -8388607f,
                8388609f, 8388609f, -Float.MAX_VALUE, -Float.MAX_VALUE, 3.9999998f, 4f);
        dueDoubles(4, Double.MIN_VALUE, 1, 0.9999999999999999, 1, 1, 1, 1.0000000000000002, 2, 1.9999999999999998, 2,
                -1, -1, -1.0000000000000002, -1, -1.9999999999999998, -1, 4503599627370495.5, 4503599627370496.0,
                -4503599627370495.5, -4503599627370495.0, 4503599627370497.0, 4503599627370497.0,
                Double.MAX_VALUE, Double.MAX_VALUE, 3.9999999999999996, 4);
    }

    private static void checkNearest() {
        CHECK.sentence("5 NEAREST: the whole number that is nearest to v, of two the even one.");
        dueSingles(5, Float.MIN_VALUE, 0f, 0.49999997f, 0f, 0.5f, 0f, 0.50000006f, 1f, 1f, 1f, 1.4999999f, 1f, 1.5f, 2f,
                2.5f, 2f, 2.5000002f, 3f, 3.5f, 4f, -1.5f, -2f, -2.5f, -2f, -0.50000006f, -1f, 8388606.5f, 8388606f,
                8388607.5f, 8388608f, -8388607.5f, -8388608f, 8388609f, 8388609f, Float.MAX_VALUE, Float.MAX_VALUE);
        dueDoubles(5, Double.MIN_VALUE, 0, 0.49999999999999994, 0, 0.5, 0, 0.5000000000000001, 1, 1, 1,
                1.4999999999999998, 1, 1.5, 2, 2.5, 2, 2.5000000000000004, 3, 3.5, 4, -1.5, -2, -2.5, -2,
                -0.5000000000000001, -1, 4503599627370494.5, 4503599627370494.0, 4503599627370495.5, 4503599627370496.0,
                -4503599627370495.5, -4503599627370496.0, 4503599627370497.0, 4503599627370497.0,
                Double.MAX_VALUE, Double.MAX_VALUE);
    }

    private static void checkThemselves() {
        CHECK.sentence("(3 to 5: infinities, 0 and -0 are themselves;");
        for (int step = 3; step <= 5; step++) {
            dueSingles(step, UP32, UP32, -UP32, -UP32, 0f, 0f, -0f, -0f);
            dueDoubles(step, UP64, UP64, -UP64, -UP64, 0, 0, -0.0, -0.0);
        }
    }

    private static void checkZeroFromBelow() {
        CHECK.sentence("a 0 that comes of a number below 0 is -0.)");
        dueSingles(4, -Float.MIN_VALUE, -0f, -0.5f, -0f, -0.99999994f, -0f);
        dueDoubles(4, -Double.MIN_VALUE, -0.0, -0.5, -0.0, -0.9999999999999999, -0.0);
        dueSingles(5, -Float.MIN_VALUE, -0f, -0.25f, -0f, -0.5f, -0f);
        dueDoubles(5, -Double.MIN_VALUE, -0.0, -0.25, -0.0, -0.5, -0.0);
        dueSingles(3, 0.5f, 0f);
        dueDoubles(3, 0.5, 0);
    }

    private static void checkSign() {
        CHECK.sentence("6 SIGN: -1, 1, or, of 0 and -0, these themselves.");
        dueSingles(6, 0f, 0f, -0f, -0f, Float.MIN_VALUE, 1f, -Float.MIN_VALUE, -1f, UP32, 1f, -UP32, -1f, 1f, 1f,
                -1f, -1f, 7.5f, 1f, -7.5f, -1f);
        dueDoubles(6, 0, 0, -0.0, -0.0, Double.MIN_VALUE, 1, -Double.MIN_VALUE, -1, UP64, 1, -UP64, -1, 1, 1,
                -1, -1, 7.5, 1, -7.5, -1);
    }

    private static void checkLike() {
        CHECK.sentence("7 LIKE: the amount of v with the sign of K (of -0 as of what is below 0).");
        float[] singles = {0f, Float.MIN_VALUE, 1f, Float.MAX_VALUE, UP32};
        for (float v : singles) {
            for (float k : singles) {
                dueWith(2, 7, Check.bits(k), Check.bits(v), Check.bits(v));
                dueWith(2, 7, Check.bits(k), Check.bits(-v), Check.bits(v));
                dueWith(2, 7, Check.bits(-k), Check.bits(v), Check.bits(-v));
                dueWith(2, 7, Check.bits(-k), Check.bits(-v), Check.bits(-v));
            }
        }
        double[] doubles = {0, Double.MIN_VALUE, 1, Double.MAX_VALUE, UP64};
        for (double v : doubles) {
            for (double k : doubles) {
                dueWith(3, 7, Check.bits(k), Check.bits(v), Check.bits(v));
                dueWith(3, 7, Check.bits(k), Check.bits(-v), Check.bits(v));
                dueWith(3, 7, Check.bits(-k), Check.bits(v), Check.bits(-v));
                dueWith(3, 7, Check.bits(-k), Check.bits(-v), Check.bits(-v));
            }
        }
    }

    /** Pairs of what goes in and what comes out. */
    private static void dueSingles(int step, float... pairs) {
        for (int i = 0; i + 1 < pairs.length; i += 2) {
            due(2, step, Check.bits(pairs[i]), Check.bits(pairs[i + 1]));
        }
    }

    private static void dueDoubles(int step, double... pairs) {
        for (int i = 0; i + 1 < pairs.length; i += 2) {
            due(3, step, Check.bits(pairs[i]), Check.bits(pairs[i + 1]));
        }
    }

    /** A step without K, whatever K is told with it. */
    private static void due(int sort, int step, long v, long want) {
        dueWith(sort, step, 0, v, want);
        dueWith(sort, step, -1, v, want);
    }

    private static void dueWith(int sort, int step, long k, long v, long want) {
        WeatherMast mast = new WeatherMast();
        mast.mount(sort);
        mast.step(0, step, k);
        CHECK.due("sort " + sort + " step " + step + " K " + k + " of " + v, want, mast.read(0, v));
    }
}
