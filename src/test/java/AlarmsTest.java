/** Promise 12: alarms. */
public final class AlarmsTest {
    private static final Check CHECK = new Check();

    public static void main(String[] args) {
        WeatherMast mast = Check.ofEachSort();
        CHECK.sentence("IndexOutOfBoundsException when there is no such instrument.");
        for (int at : new int[] {-1, 4, 8, Integer.MIN_VALUE, Integer.MAX_VALUE}) {
            CHECK.refused("alarms of instrument " + at, Check.INDEX, () -> mast.alarms(at));
        }
        CHECK.sentence("How many alarms an instrument gave.");
        checkFirstLimits(mast);
        checkZeros();
        checkChain();
        CHECK.end();
    }

    private static void checkFirstLimits(WeatherMast mast) {
        mast.read(0, Integer.MIN_VALUE);
        mast.read(0, Integer.MAX_VALUE);
        mast.read(1, Long.MIN_VALUE);
        mast.read(1, Long.MAX_VALUE);
        mast.read(2, Check.bits(Float.NEGATIVE_INFINITY));
        mast.read(2, Check.bits(Float.POSITIVE_INFINITY));
        mast.read(3, Check.bits(Double.NEGATIVE_INFINITY));
        mast.read(3, Check.bits(Double.POSITIVE_INFINITY));
        for (int sort = 0; sort < 4; sort++) {
            CHECK.due("no alarm at first", 0, mast.alarms(sort));
        }
        CHECK.due("none at all", 0, mast.count(2));
        mast.limits(3, Check.bits(-Double.MAX_VALUE), Check.bits(Double.MAX_VALUE));
        mast.read(3, Check.bits(Double.NEGATIVE_INFINITY));
        mast.read(3, Check.bits(Double.POSITIVE_INFINITY));
        mast.read(3, Check.bits(Double.MAX_VALUE));
        CHECK.due("infinities", 2, mast.alarms(3));
        CHECK.due("of another one", 0, mast.alarms(2));
        CHECK.due("of all", 2, mast.count(2));
    }

    private static void checkZeros() {
        WeatherMast mast = Check.ofEachSort();
        mast.limits(3, Check.bits(0.0), Check.bits(0.0));
        mast.read(3, Check.bits(-0.0));
        mast.limits(3, Check.bits(-0.0), Check.bits(-0.0));
        mast.read(3, Check.bits(0.0));
        CHECK.due("0 and -0 are alike", 0, mast.alarms(3));
        mast.read(3, Check.bits(Double.MIN_VALUE));
        mast.read(3, Check.bits(-Double.MIN_VALUE));
        CHECK.due("the least amount is beyond", 2, mast.alarms(3));
        mast.limits(2, Check.bits(0f), Check.bits(-0f));
        mast.read(2, Check.bits(0f));
        mast.read(2, Check.bits(-0f));
        CHECK.due("0 and -0 are alike", 0, mast.alarms(2));
    }

    private static void checkChain() {
        WeatherMast mast = Check.ofEachSort();
        mast.step(0, 0, 0);
        mast.limits(0, 0, 10);
        mast.read(0, -5);
        CHECK.due("what comes out counts", 0, mast.alarms(0));
        mast.read(0, -11);
        CHECK.due("what comes out counts", 1, mast.alarms(0));
        CHECK.due("below, by the sign", Integer.MIN_VALUE, mast.read(0, Integer.MIN_VALUE));
        CHECK.due("below, by the sign", 2, mast.alarms(0));
        mast.limits(1, 1, 10);
        mast.read(1, 1L << 32);
        mast.read(1, -1L << 32);
        CHECK.due("tallies", 2, mast.alarms(1));
    }
}
