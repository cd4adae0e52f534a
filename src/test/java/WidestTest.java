/** Promise 10: widest. */
public final class WidestTest {
    private static final Check CHECK = new Check();

    public static void main(String[] args) {
        checkRefusals();
        checkCounts();
        checkTallies();
        checkDoubles();
        CHECK.end();
    }

    private static void checkRefusals() {
        CHECK.sentence("IllegalArgumentException when there is no such sort;");
        WeatherMast mast = Check.ofEachSort();
        for (int sort : new int[] {-1, 4, Integer.MIN_VALUE, Integer.MAX_VALUE}) {
            CHECK.refused("no sort", Check.ARGUMENT, () -> mast.widest(sort));
        }
        CHECK.sentence("NoSuchElementException when none of them has read anything.");
        for (int read = 0; read < 4; read++) {
            for (int sort = read; sort < 4; sort++) {
                int asked = sort;
                CHECK.refused("nothing was read", Check.NONE_SUCH, () -> mast.widest(asked));
            }
            mast.read(read, 0);
            CHECK.due("of the first reading", 0, mast.widest(read));
        }
        mast.forget(1);
        CHECK.refused("forgotten", Check.NONE_SUCH, () -> mast.widest(1));
        CHECK.due("of another sort", 0, mast.widest(0));
    }

    private static void checkCounts() {
        CHECK.sentence("The greatest SWING of the latest readings of all instruments of a sort.");
        WeatherMast mast = mastOf(0, 0, 0, 1);
        mast.read(0, 5);
        mast.read(0, 8);
        mast.read(1, 5);
        mast.read(1, -5);
        mast.read(2, 5);
        mast.read(3, 5);
        mast.read(3, 500);
        CHECK.due("the greatest", 10, mast.widest(0));
        mast.read(1, -5);
        CHECK.due("of the latest readings", 3, mast.widest(0));
        mast.forget(0);
        CHECK.due("without what is forgotten", 0, mast.widest(0));
        mast.forget(1);
        mast.forget(2);
        CHECK.sentence("(Of COUNTS and TALLIES the greatest by their sign.)");
        mast.read(0, Integer.MIN_VALUE);
        mast.read(0, 0);
        CHECK.due("below 0 alone", Integer.MIN_VALUE, mast.widest(0));
        mast.read(1, 0);
        CHECK.due("greatest by the sign", 0, mast.widest(0));
    }

    private static void checkTallies() {
        WeatherMast mast = mastOf(1, 1, 0, 1);
        mast.read(0, Long.MIN_VALUE);
        mast.read(0, 0);
        CHECK.due("below 0 alone", Long.MIN_VALUE, mast.widest(1));
        mast.read(1, 0);
        mast.read(1, 1L << 50);
        CHECK.due("by the sign", 1L << 50, mast.widest(1));
        mast.read(3, 0);
        mast.read(3, 1L << 51);
        CHECK.due("the last one", 1L << 51, mast.widest(1));
    }

    private static void checkDoubles() {
        CHECK.sentence("The greatest SWING of the latest readings of all instruments of a sort.");
        WeatherMast mast = mastOf(3, 2, 3, 2);
        mast.read(0, Check.bits(1.0));
        mast.read(0, Check.bits(-1.5));
        mast.read(2, Check.bits(1.0));
        mast.read(2, Check.bits(3.25));
        CHECK.due("doubles", Check.bits(2.5), mast.widest(3));
        CHECK.refused("singles", Check.NONE_SUCH, () -> mast.widest(2));
        mast.read(2, Check.bits(Double.NEGATIVE_INFINITY));
        CHECK.due("an infinity", Check.bits(Double.POSITIVE_INFINITY), mast.widest(3));
        mast.read(1, Check.bits(1f));
        mast.read(1, Check.bits(1.5f));
        mast.read(3, Check.bits(-2f));
        CHECK.due("singles", Check.bits(0.5f), mast.widest(2));
    }

    private static WeatherMast mastOf(int... sorts) {
        WeatherMast mast = new WeatherMast();
        for (int sort : sorts) {
            mast.mount(sort);
        }
        return mast;
    }
}
