/** Promise 7: tell. */
public final class TellTest {
    private static final Check CHECK = new Check();

    public static void main(String[] args) {
        checkRefusals();
        checkWhole();
        checkSigns();
        checkInfinities();
        checkRounding();
        checkAllSums();
        CHECK.end();
    }

    private static void checkRefusals() {
        WeatherMast mast = Check.ofEachSort();
        CHECK.sentence("IndexOutOfBoundsException when there is no such instrument;");
        for (int at : new int[] {-1, 4, 8, Integer.MIN_VALUE, Integer.MAX_VALUE}) {
            CHECK.refused("tell of instrument " + at, Check.INDEX, () -> mast.tell(at, 0));
        }
        CHECK.sentence("then IllegalArgumentException for another what;");
        for (int what : new int[] {-1, 4, Integer.MIN_VALUE, Integer.MAX_VALUE}) {
            CHECK.refused("another what", Check.ARGUMENT, () -> mast.tell(0, what));
        }
        CHECK.sentence("then NoSuchElementException when it has read nothing.");
        for (int sort = 0; sort < 4; sort++) {
            for (int what = 0; what < 4; what++) {
                int told = what;
                int asked = sort;
                CHECK.refused("nothing was read", Check.NONE_SUCH, () -> mast.tell(asked, told));
            }
        }
        mast.read(0, 1);
        mast.forget(0);
        CHECK.refused("forgotten", Check.NONE_SUCH, () -> mast.tell(0, 0));
        mast.read(0, 1);
        CHECK.refused("another what", Check.ARGUMENT, () -> mast.tell(0, 4));
    }

    private static void checkWhole() {
        CHECK.sentence("Of an instrument: 0 LEAST, 1 GREATEST, 2 SWING of the latest reading, 3 SUM.");
        WeatherMast mast = Check.ofEachSort();
        mast.read(0, -5);
        due(mast, 0, -5, -5, 0, 5);
        mast.read(0, 3);
        due(mast, 0, -5, 3, 8, 8);
        mast.read(0, 2);
        due(mast, 0, -5, 3, 1, 10);
        mast.read(0, 2);
        due(mast, 0, -5, 3, 0, 12);
        mast.read(0, Integer.MIN_VALUE);
        due(mast, 0, Integer.MIN_VALUE, 3, 0x7fff_fffeL, Integer.MIN_VALUE + 12);
        mast.read(0, 0);
        due(mast, 0, Integer.MIN_VALUE, 3, Integer.MIN_VALUE, Integer.MIN_VALUE + 12);
        mast.read(0, Integer.MAX_VALUE);
        due(mast, 0, Integer.MIN_VALUE, Integer.MAX_VALUE, Integer.MAX_VALUE, 11);
        mast.read(0, Integer.MIN_VALUE);
        due(mast, 0, Integer.MIN_VALUE, Integer.MAX_VALUE, 1, Integer.MIN_VALUE + 11);
        mast.read(1, Long.MAX_VALUE);
        mast.read(1, Long.MIN_VALUE);
        due(mast, 1, Long.MIN_VALUE, Long.MAX_VALUE, 1, -1);
        mast.read(1, 0);
        due(mast, 1, Long.MIN_VALUE, Long.MAX_VALUE, Long.MIN_VALUE, -1);
        mast.read(1, 1L << 40);
        due(mast, 1, Long.MIN_VALUE, Long.MAX_VALUE, 1L << 40, (1L << 40) - 1);
    }

    private static void checkSigns() {
        WeatherMast mast = Check.ofEachSort();
        mast.read(3, Check.bits(0.0));
        due(mast, 3, 0, 0, 0, 0);
        mast.read(3, Check.bits(-0.0));
        due(mast, 3, Check.bits(-0.0), 0, 0, 0);
        mast.read(2, Check.bits(-0f));
        due(mast, 2, Check.bits(-0f), Check.bits(-0f), 0, 0);
        mast.read(2, Check.bits(0f));
        due(mast, 2, Check.bits(-0f), 0, 0, 0);
        mast.read(2, Check.bits(-Float.MIN_VALUE));
        due(mast, 2, Check.bits(-Float.MIN_VALUE), 0, Check.bits(Float.MIN_VALUE), Check.bits(Float.MIN_VALUE));
    }

    private static void checkInfinities() {
        long up = Check.bits(Double.POSITIVE_INFINITY);
        long down = Check.bits(Double.NEGATIVE_INFINITY);
        WeatherMast mast = Check.ofEachSort();
        mast.read(3, up);
        due(mast, 3, up, up, 0, up);
        mast.read(3, up);
        due(mast, 3, up, up, 0, up);
        mast.read(3, down);
        due(mast, 3, down, up, up, up);
        mast.read(3, down);
        due(mast, 3, down, up, 0, up);
        mast.read(3, Check.bits(1.0));
        due(mast, 3, down, up, up, up);
        mast.read(3, Check.bits(3.0));
        due(mast, 3, down, up, Check.bits(2.0), up);
        long big = Check.bits(Float.MAX_VALUE);
        mast.read(2, big);
        mast.read(2, Check.bits(-Float.MAX_VALUE));
        long over = Check.bits(Float.POSITIVE_INFINITY);
        due(mast, 2, Check.bits(-Float.MAX_VALUE), big, over, over);
    }

    private static void checkRounding() {
        WeatherMast mast = Check.ofEachSort();
        mast.read(2, Check.bits(16777216f));
        mast.read(2, Check.bits(-1f));
        CHECK.due("a half goes to the even one", Check.bits(16777216f), mast.tell(2, 3));
        CHECK.due("a half goes to the even one", Check.bits(16777216f), mast.tell(2, 2));
        mast.read(2, Check.bits(3f));
        CHECK.due("more than a half", Check.bits(16777220f), mast.tell(2, 3));
        mast.read(3, Check.bits(0.1));
        mast.read(3, Check.bits(0.2));
        CHECK.due("a rounded sum", Check.bits(0.1 + 0.2), mast.tell(3, 3));
        mast.read(3, Check.bits(0.3));
        CHECK.due("one by one", Check.bits(0.1 + 0.2 + 0.3), mast.tell(3, 3));
        CHECK.due("a rounded swing", Check.bits(0.3 - 0.2), mast.tell(3, 2));
    }

    /** Sums and swings of pairs, against the machine's own. */
    private static void checkAllSums() {
        float[] singles = {0f, 1f, 1.1754942e-38f, Float.MIN_VALUE, Float.MIN_NORMAL, Float.MAX_VALUE, 16777215f,
            16777217f, 0.1f, 1.0000001f, 1.9999999f, 5.9604645e-8f, 2.9802322e-8f, 1.01412048e31f, 2.02824096e31f, 3e38f,
            2 * Float.MIN_NORMAL, 3 * Float.MIN_NORMAL, 4 * Float.MIN_NORMAL};
        for (float a : singles) {
            for (float b : singles) {
                dueOfPair(2, Check.bits(a), Check.bits(-b), Check.bits(a + b), Check.bits(Math.abs(a + b)));
                dueOfPair(2, Check.bits(a), Check.bits(b), Check.bits(a + b), Check.bits(Math.abs(b - a)));
            }
        }
        double[] doubles = {0, 1, Double.MIN_VALUE, Double.MIN_NORMAL, Double.MAX_VALUE, 9007199254740991.0,
            9007199254740992.0, 9007199254740994.0, 0.1, 1.0000000000000002, 1.9999999999999998, 1.1102230246251565e-16,
            1.1102230246251568e-16, 5.551115123125783e-17, 9.9792015476736e291, 1.99584030953472e292, 1e308,
            2.225073858507201e-308, 2 * Double.MIN_NORMAL, 3 * Double.MIN_NORMAL, 4 * Double.MIN_NORMAL};
        for (double a : doubles) {
            for (double b : doubles) {
                dueOfPair(3, Check.bits(a), Check.bits(-b), Check.bits(a + b), Check.bits(Math.abs(a + b)));
                dueOfPair(3, Check.bits(a), Check.bits(b), Check.bits(a + b), Check.bits(Math.abs(b - a)));
            }
        }
    }

    private static void dueOfPair(int sort, long first, long second, long sum, long swing) {
        WeatherMast mast = new WeatherMast();
        mast.mount(sort);
        mast.read(0, first);
        mast.read(0, second);
        CHECK.due("swing of " + first + " and " + second, swing, mast.tell(0, 2));
        CHECK.due("sum of " + first + " and " + second, sum, mast.tell(0, 3));
    }

    private static void due(WeatherMast mast, int instrument, long least, long greatest, long swing, long sum) {
        CHECK.due("least", least, mast.tell(instrument, 0));
        CHECK.due("greatest", greatest, mast.tell(instrument, 1));
        CHECK.due("swing", swing, mast.tell(instrument, 2));
        CHECK.due("sum", sum, mast.tell(instrument, 3));
    }
}
