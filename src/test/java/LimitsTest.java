/** Promise 9: limits. */
public final class LimitsTest {
    private static final Check CHECK = new Check();

    public static void main(String[] args) {
        checkRefusals();
        checkAnswers();
        checkFromNowOn();
        checkWidth();
        CHECK.end();
    }

    private static void checkRefusals() {
        WeatherMast mast = Check.ofEachSort();
        CHECK.sentence("IndexOutOfBoundsException when there is no such instrument;");
        for (int at : new int[] {-1, 4, 8, Integer.MIN_VALUE, Integer.MAX_VALUE}) {
            CHECK.refused("limits of instrument " + at, Check.INDEX, () -> mast.limits(at, 0, 0) ? 1 : 0);
        }
        CHECK.sentence("then IllegalArgumentException when one of both is no number.");
        for (int sort = 2; sort < 4; sort++) {
            int asked = sort;
            CHECK.refused("low is none", Check.ARGUMENT, () -> mast.limits(asked, -1, 0) ? 1 : 0);
            CHECK.refused("high is none", Check.ARGUMENT, () -> mast.limits(asked, 0, -1) ? 1 : 0);
            CHECK.refused("both are none", Check.ARGUMENT, () -> mast.limits(asked, -1, -1) ? 1 : 0);
        }
        mast.read(2, Check.bits(-5f));
        mast.read(2, Check.bits(5f));
        mast.read(3, Check.bits(-5.0));
        mast.read(3, Check.bits(5.0));
        CHECK.due("refused limits are not set", 0, mast.count(2));
    }

    private static void checkAnswers() {
        CHECK.sentence("whether LOW is not ABOVE HIGH.");
        WeatherMast mast = Check.ofEachSort();
        CHECK.due("counts", true, mast.limits(0, -1, 1));
        CHECK.due("counts alike", true, mast.limits(0, 1, 1));
        CHECK.due("counts turned", false, mast.limits(0, 1, -1));
        CHECK.due("counts by 32 bits", false, mast.limits(0, 1, 1L << 32));
        CHECK.due("tallies", true, mast.limits(1, 1, 1L << 32));
        CHECK.due("tallies", true, mast.limits(1, Long.MIN_VALUE, Long.MAX_VALUE));
        CHECK.due("tallies turned", false, mast.limits(1, Long.MAX_VALUE, Long.MIN_VALUE));
        CHECK.due("singles", true, mast.limits(2, Check.bits(-2f), Check.bits(-1f)));
        CHECK.due("singles turned", false, mast.limits(2, Check.bits(-1f), Check.bits(-2f)));
        CHECK.due("0 is not above -0", true, mast.limits(2, Check.bits(0f), Check.bits(-0f)));
        CHECK.due("-0 is not above 0", true, mast.limits(2, Check.bits(-0f), Check.bits(0f)));
        CHECK.due("0 is not above -0", true, mast.limits(3, Check.bits(0.0), Check.bits(-0.0)));
        CHECK.due("above 0", false, mast.limits(3, Check.bits(Double.MIN_VALUE), Check.bits(-0.0)));
        CHECK.due("below 0", true, mast.limits(3, Check.bits(-Double.MIN_VALUE), Check.bits(-0.0)));
        CHECK.due("infinities", true, mast.limits(3, Check.bits(Double.NEGATIVE_INFINITY), Check.bits(Double.POSITIVE_INFINITY)));
        CHECK.due("infinities alike", true, mast.limits(3, Check.bits(Double.POSITIVE_INFINITY), Check.bits(Double.POSITIVE_INFINITY)));
        CHECK.due("infinities turned", false, mast.limits(3, Check.bits(Double.POSITIVE_INFINITY), Check.bits(Double.NEGATIVE_INFINITY)));
    }

    private static void checkFromNowOn() {
        CHECK.sentence("An instrument's limits from now on:");
        WeatherMast mast = Check.ofEachSort();
        mast.read(0, 100);
        mast.limits(0, -1, 1);
        CHECK.due("earlier readings are no alarms", 0, mast.alarms(0));
        int[] told = {-2, -1, 0, 1, 2};
        int[] due = {1, 1, 1, 1, 2};
        for (int i = 0; i < told.length; i++) {
            mast.read(0, told[i]);
            CHECK.due("alarms at " + told[i], due[i], mast.alarms(0));
        }
        CHECK.due("turned limits are set, too", false, mast.limits(0, 1, -1));
        mast.read(0, 0);
        CHECK.due("below and above is one alarm", 3, mast.alarms(0));
        mast.read(0, 5);
        CHECK.due("above alone", 4, mast.alarms(0));
    }

    private static void checkWidth() {
        WeatherMast mast = Check.ofEachSort();
        long far = 0x7fff_ffffL << 32;
        CHECK.due("the lowest bits alone", true, mast.limits(2, far | Check.bits(1f), far | Check.bits(2f)));
        mast.read(2, Check.bits(1f));
        mast.read(2, Check.bits(2f));
        CHECK.due("at the limits", 0, mast.alarms(2));
        mast.read(2, Check.bits(2.5f));
        CHECK.due("beyond", 1, mast.alarms(2));
    }
}
