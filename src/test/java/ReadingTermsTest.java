/** The terms' words on readings: the chain's order, the sixteen that are kept, least, greatest, swing, sum, alarm. */
public final class ReadingTermsTest {
    private static final Check CHECK = new Check();

    public static void main(String[] args) {
        checkChainOrder();
        checkSixteen();
        checkLeast();
        checkGreatest();
        checkSwing();
        checkFirstSwing();
        checkSwingOfAlike();
        checkSwingWraps();
        checkSum();
        checkAlarm();
        CHECK.end();
    }

    private static void checkChainOrder() {
        CHECK.sentence("A READING: the number that is told goes through the chain, the first step first; "
                + "what comes out is read.");
        WeatherMast mast = Check.ofEachSort();
        CHECK.due("through an empty chain", -8, mast.read(0, -8));
        mast.step(0, 0, 0);
        mast.step(0, 2, -3);
        mast.step(0, 1, -5);
        CHECK.due("amount, at most -3, at least -5", -3, mast.read(0, -8));
        mast.step(1, 1, -5);
        mast.step(1, 2, -3);
        mast.step(1, 0, 0);
        CHECK.due("at least -5, at most -3, amount", 5, mast.read(1, -8));
        CHECK.due("what comes out is kept", -3, mast.reading(0, 0));
        CHECK.due("what comes out is the greatest", -3, mast.tell(0, 1));
        CHECK.due("what comes out makes the swing", 5, mast.tell(0, 2));
        CHECK.due("what comes out is added", 11, mast.tell(0, 3));
        CHECK.due("what comes out is whole", -3, mast.whole(0));
    }

    private static void checkSixteen() {
        CHECK.sentence("The latest sixteen readings of an instrument are kept.");
        WeatherMast mast = Check.ofEachSort();
        for (int n = 0; n < 16; n++) {
            mast.read(1, n);
        }
        CHECK.due("the sixteenth latest of sixteen", 0, mast.reading(1, 15));
        CHECK.refused("the seventeenth of sixteen", Check.NONE_SUCH, () -> mast.reading(1, 16));
        for (int n = 16; n < 40; n++) {
            mast.read(1, n);
            CHECK.due("the latest", n, mast.reading(1, 0));
            CHECK.due("the sixteenth latest", n - 15, mast.reading(1, 15));
            CHECK.refused("the seventeenth latest", Check.NONE_SUCH, () -> mast.reading(1, 16));
        }
    }

    private static void checkLeast() {
        CHECK.sentence("LEAST is the LESSER of all its readings,");
        for (int sort = 0; sort < 4; sort++) {
            CHECK.due("of one", 7, toldOf(sort, 0, 7));
            CHECK.due("the first", 3, toldOf(sort, 0, 3, 7, 5));
            CHECK.due("the last", 3, toldOf(sort, 0, 7, 5, 3));
            CHECK.due("one that is kept no more", 2, toldOf(sort, 0, ofTwenty(2)));
        }
        CHECK.due("the least count", Integer.MIN_VALUE, toldOf(0, 0, Integer.MAX_VALUE, Integer.MIN_VALUE, -1));
        CHECK.due("the least tally", Long.MIN_VALUE, toldOf(1, 0, Long.MAX_VALUE, Long.MIN_VALUE, -1));
        CHECK.due("of singles below 0", Check.bits(-2f), toldOf(2, 0, Check.bits(-1f), Check.bits(-2f), Check.bits(1f)));
        CHECK.due("the infinity below", Check.bits(Double.NEGATIVE_INFINITY),
                toldOf(3, 0, Check.bits(-Double.MAX_VALUE), Check.bits(Double.NEGATIVE_INFINITY)));
    }

    private static void checkGreatest() {
        CHECK.sentence("GREATEST the GREATER.");
        for (int sort = 0; sort < 4; sort++) {
            CHECK.due("of one", 7, toldOf(sort, 1, 7));
            CHECK.due("the first", 7, toldOf(sort, 1, 7, 3, 5));
            CHECK.due("the last", 7, toldOf(sort, 1, 3, 5, 7));
            CHECK.due("one that is kept no more", 90, toldOf(sort, 1, ofTwenty(90)));
        }
        CHECK.due("of counts below 0", -1, toldOf(0, 1, -5, -1, Integer.MIN_VALUE));
        CHECK.due("of tallies below 0", -1, toldOf(1, 1, -5, -1, Long.MIN_VALUE));
        CHECK.due("of singles below 0", Check.bits(-1f), toldOf(2, 1, Check.bits(-2f), Check.bits(-1f)));
        CHECK.due("the infinity above", Check.bits(Double.POSITIVE_INFINITY),
                toldOf(3, 1, Check.bits(Double.MAX_VALUE), Check.bits(Double.POSITIVE_INFINITY)));
    }

    private static void checkSwing() {
        CHECK.sentence("SWING is the amount of the reading less the one ahead of it");
        CHECK.due("risen", 3, toldOf(0, 2, 5, 8));
        CHECK.due("fallen", 3, toldOf(0, 2, 8, 5));
        CHECK.due("of the last two alone", 1, toldOf(1, 2, 100, 5, 6));
        CHECK.due("through 0", 13, toldOf(1, 2, -5, 8));
        CHECK.due("singles", Check.bits(3.5f), toldOf(2, 2, Check.bits(1f), Check.bits(-2.5f)));
        CHECK.due("doubles", Check.bits(3.5), toldOf(3, 2, Check.bits(-2.5), Check.bits(1.0)));
        checkSwingOfInfinities(2, Check.bits(Float.POSITIVE_INFINITY), Check.bits(Float.NEGATIVE_INFINITY),
                new long[] {0, Check.bits(-0f), Check.bits(1f), Check.bits(-1f), Check.bits(Float.MAX_VALUE),
                    Check.bits(-Float.MAX_VALUE)});
        checkSwingOfInfinities(3, Check.bits(Double.POSITIVE_INFINITY), Check.bits(Double.NEGATIVE_INFINITY),
                new long[] {0, Check.bits(-0.0), Check.bits(1.0), Check.bits(-1.0), Check.bits(Double.MAX_VALUE),
                    Check.bits(-Double.MAX_VALUE)});
    }

    private static void checkSwingOfInfinities(int sort, long up, long down, long[] finite) {
        CHECK.due("from the upper infinity to the lower", up, toldOf(sort, 2, up, down));
        CHECK.due("from the lower infinity to the upper", up, toldOf(sort, 2, down, up));
        for (long v : finite) {
            CHECK.due("from the upper infinity to " + v, up, toldOf(sort, 2, up, v));
            CHECK.due("from the lower infinity to " + v, up, toldOf(sort, 2, down, v));
            CHECK.due("to the upper infinity from " + v, up, toldOf(sort, 2, v, up));
            CHECK.due("to the lower infinity from " + v, up, toldOf(sort, 2, v, down));
        }
    }

    private static void checkFirstSwing() {
        CHECK.sentence("(0 for the first one,");
        long[] firsts = {Integer.MIN_VALUE, Long.MIN_VALUE, Check.bits(Float.NEGATIVE_INFINITY),
            Check.bits(Double.NEGATIVE_INFINITY)};
        for (int sort = 0; sort < 4; sort++) {
            CHECK.due("the first ever", 0, toldOf(sort, 2, firsts[sort]));
            WeatherMast mast = Check.ofEachSort();
            mast.read(sort, 9);
            mast.read(sort, firsts[sort]);
            mast.forget(sort);
            mast.read(sort, 4);
            CHECK.due("the first behind a forgetting", 0, mast.tell(sort, 2));
        }
    }

    private static void checkSwingOfAlike() {
        CHECK.sentence("and of two that are alike;");
        for (int sort = 0; sort < 4; sort++) {
            CHECK.due("twice the same", 0, toldOf(sort, 2, 1, 9, 9));
        }
        CHECK.due("twice the least count", 0, toldOf(0, 2, Integer.MIN_VALUE, Integer.MIN_VALUE));
        CHECK.due("twice the least tally", 0, toldOf(1, 2, Long.MIN_VALUE, Long.MIN_VALUE));
        CHECK.due("counts by their bits", 0, toldOf(0, 2, 5, 1L << 32 | 5));
        float up32 = Float.POSITIVE_INFINITY;
        CHECK.due("single infinities above", 0, toldOf(2, 2, Check.bits(up32), Check.bits(up32)));
        CHECK.due("single infinities below", 0, toldOf(2, 2, Check.bits(-up32), Check.bits(-up32)));
        CHECK.due("-0f behind 0f", 0, toldOf(2, 2, 0, Check.bits(-0f)));
        CHECK.due("0f behind -0f", 0, toldOf(2, 2, Check.bits(-0f), 0));
        CHECK.due("-0f twice", 0, toldOf(2, 2, Check.bits(-0f), Check.bits(-0f)));
        CHECK.due("singles below 0", 0, toldOf(2, 2, Check.bits(-1.5f), Check.bits(-1.5f)));
        double up64 = Double.POSITIVE_INFINITY;
        CHECK.due("double infinities above", 0, toldOf(3, 2, Check.bits(up64), Check.bits(up64)));
        CHECK.due("double infinities below", 0, toldOf(3, 2, Check.bits(-up64), Check.bits(-up64)));
        CHECK.due("-0 behind 0", 0, toldOf(3, 2, 0, Check.bits(-0.0)));
        CHECK.due("0 behind -0", 0, toldOf(3, 2, Check.bits(-0.0), 0));
        CHECK.due("-0 twice", 0, toldOf(3, 2, Check.bits(-0.0), Check.bits(-0.0)));
        CHECK.due("doubles below 0", 0, toldOf(3, 2, Check.bits(-1.5), Check.bits(-1.5)));
    }

    private static void checkSwingWraps() {
        CHECK.sentence("of COUNTS and TALLIES it wraps).");
        CHECK.due("counts, the greatest swing", Integer.MAX_VALUE, toldOf(0, 2, 0, Integer.MAX_VALUE));
        CHECK.due("counts, one beyond", Integer.MIN_VALUE, toldOf(0, 2, -1, Integer.MAX_VALUE));
        CHECK.due("counts, one beyond, down", Integer.MIN_VALUE, toldOf(0, 2, Integer.MAX_VALUE, -1));
        CHECK.due("counts, the least behind 0", Integer.MIN_VALUE, toldOf(0, 2, 0, Integer.MIN_VALUE));
        CHECK.due("counts, from the least to the greatest", 1, toldOf(0, 2, Integer.MIN_VALUE, Integer.MAX_VALUE));
        CHECK.due("counts, from the greatest to the least", 1, toldOf(0, 2, Integer.MAX_VALUE, Integer.MIN_VALUE));
        CHECK.due("counts, two beyond", Integer.MAX_VALUE, toldOf(0, 2, -2, Integer.MAX_VALUE));
        CHECK.due("tallies, beyond 32 bits", 1L << 31, toldOf(1, 2, -1, Integer.MAX_VALUE));
        CHECK.due("tallies, the greatest swing", Long.MAX_VALUE, toldOf(1, 2, 0, Long.MAX_VALUE));
        CHECK.due("tallies, one beyond", Long.MIN_VALUE, toldOf(1, 2, -1, Long.MAX_VALUE));
        CHECK.due("tallies, one beyond, down", Long.MIN_VALUE, toldOf(1, 2, Long.MAX_VALUE, -1));
        CHECK.due("tallies, the least behind 0", Long.MIN_VALUE, toldOf(1, 2, 0, Long.MIN_VALUE));
        CHECK.due("tallies, from the least to the greatest", 1, toldOf(1, 2, Long.MIN_VALUE, Long.MAX_VALUE));
        CHECK.due("tallies, two beyond", Long.MAX_VALUE, toldOf(1, 2, -2, Long.MAX_VALUE));
    }

    private static void checkSum() {
        CHECK.sentence("SUM is, beginning with 0, the amounts of the readings one by one, added.");
        CHECK.due("counts", 15, toldOf(0, 3, -5, 7, -3));
        CHECK.due("the least count", Integer.MIN_VALUE, toldOf(0, 3, Integer.MIN_VALUE));
        CHECK.due("tallies", 15, toldOf(1, 3, -5, 7, -3));
        CHECK.due("the least tally", Long.MIN_VALUE, toldOf(1, 3, Long.MIN_VALUE));
        CHECK.due("of -0f it is 0", 0, toldOf(2, 3, Check.bits(-0f)));
        CHECK.due("of -0 it is 0", 0, toldOf(3, 3, Check.bits(-0.0), Check.bits(-0.0)));
        CHECK.due("infinities", Check.bits(Float.POSITIVE_INFINITY),
                toldOf(2, 3, Check.bits(Float.POSITIVE_INFINITY), Check.bits(Float.NEGATIVE_INFINITY), 1));
        long big = Check.bits(16777216f);
        long one = Check.bits(-1f);
        CHECK.due("the small ones behind the big one", big, toldOf(2, 3, big, one, one));
        CHECK.due("the small ones ahead of the big one", Check.bits(16777218f), toldOf(2, 3, one, one, big));
        CHECK.due("doubles one by one", Check.bits(0.1 + 0.2 + 0.3),
                toldOf(3, 3, Check.bits(0.1), Check.bits(-0.2), Check.bits(0.3)));
        CHECK.due("those that are kept no more, too", 90 + 19 * 49, toldOf(1, 3, ofTwenty(90)));
    }

    private static void checkAlarm() {
        CHECK.sentence("It is an ALARM when it is BELOW LOW or ABOVE HIGH.");
        checkAlarmsAround(0, -5, 9, -6, 10);
        checkAlarmsAround(1, -5L << 32, 9L << 32, (-5L << 32) - 1, (9L << 32) + 1);
        checkAlarmsAround(2, Check.bits(-1f), Check.bits(1f), Check.bits(Math.nextDown(-1f)), Check.bits(Math.nextUp(1f)));
        checkAlarmsAround(3, Check.bits(-1.0), Check.bits(1.0), Check.bits(Math.nextDown(-1.0)),
                Check.bits(Math.nextUp(1.0)));
    }

    private static void checkAlarmsAround(int sort, long low, long high, long below, long above) {
        WeatherMast mast = Check.ofEachSort();
        mast.limits(sort, low, high);
        mast.read(sort, low);
        mast.read(sort, high);
        mast.read(sort, 0);
        CHECK.due("at the limits and between", 0, mast.alarms(sort));
        mast.read(sort, below);
        CHECK.due("just below", 1, mast.alarms(sort));
        mast.read(sort, above);
        CHECK.due("just above", 2, mast.alarms(sort));
        mast.limits(sort, high, low);
        mast.read(sort, 0);
        CHECK.due("below and above at once is one alarm", 3, mast.alarms(sort));
    }

    /** One reading that stands alone, and nineteen of 49 behind it. */
    private static long[] ofTwenty(long first) {
        long[] told = new long[20];
        java.util.Arrays.fill(told, 49);
        told[0] = first;
        return told;
    }

    private static long toldOf(int sort, int what, long... readings) {
        WeatherMast mast = new WeatherMast();
        mast.mount(sort);
        for (long told : readings) {
            mast.read(0, told);
        }
        return mast.tell(0, what);
    }
}
