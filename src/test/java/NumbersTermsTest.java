/** The terms' first paragraph: the four sorts, their bits, what is no number, infinities, 0 and -0. */
public final class NumbersTermsTest {
    private static final Check CHECK = new Check();
    private static final long UP32 = Check.bits(Float.POSITIVE_INFINITY);
    private static final long DOWN32 = Check.bits(Float.NEGATIVE_INFINITY);
    private static final long UP64 = Check.bits(Double.POSITIVE_INFINITY);
    private static final long DOWN64 = Check.bits(Double.NEGATIVE_INFINITY);
    /** The least and the greatest bits that are no number, of both signs. */
    private static final long[] NO_SINGLES = {0x7f80_0001L, 0x7fff_ffffL, 0xff80_0001L, 0xffff_ffffL};
    private static final long[] NO_DOUBLES = {0x7ff0_0000_0000_0001L, 0x7fff_ffff_ffff_ffffL,
        0xfff0_0000_0000_0001L, 0xffff_ffff_ffff_ffffL};

    public static void main(String[] args) {
        checkSorts();
        checkCountsWrap();
        checkTalliesWrap();
        checkRounding();
        checkTooSmallAndTooLarge();
        checkCountBits();
        checkTallyBits();
        checkSingleBits();
        checkDoubleBits();
        checkAnsweredWithSign();
        checkNoNumbers();
        checkInfinities();
        checkZerosOfGreaterAndLesser();
        checkZerosOfAboveAndBelow();
        CHECK.end();
    }

    private static void checkSorts() {
        CHECK.sentence("NUMBERS are of four SORTS:");
        for (int sort = 0; sort < 4; sort++) {
            CHECK.due("sort " + sort, 0, new WeatherMast().mount(sort));
        }
        CHECK.refused("a sort too small", Check.ARGUMENT, () -> new WeatherMast().mount(-1));
        CHECK.refused("a sort too large", Check.ARGUMENT, () -> new WeatherMast().mount(4));
    }

    private static void checkCountsWrap() {
        CHECK.sentence("0 COUNTS (32 bits, they wrap),");
        CHECK.due("a sum at the greatest", Integer.MAX_VALUE, toldOf(0, 3, Integer.MAX_VALUE - 1, 1));
        CHECK.due("a sum one beyond", Integer.MIN_VALUE, toldOf(0, 3, Integer.MAX_VALUE, 1));
        CHECK.due("a sum of both greatest", -2, toldOf(0, 3, Integer.MAX_VALUE, Integer.MAX_VALUE));
        CHECK.due("a sum of both least", 0, toldOf(0, 3, Integer.MIN_VALUE, Integer.MIN_VALUE));
        CHECK.due("a sum round to the least again", -1, toldOf(0, 3, Integer.MAX_VALUE, Integer.MIN_VALUE));
    }

    private static void checkTalliesWrap() {
        CHECK.sentence("1 TALLIES (64 bits, they wrap),");
        CHECK.due("a sum beyond 32 bits", 1L << 31, toldOf(1, 3, Integer.MAX_VALUE, 1));
        CHECK.due("a sum at the greatest", Long.MAX_VALUE, toldOf(1, 3, Long.MAX_VALUE - 1, 1));
        CHECK.due("a sum one beyond", Long.MIN_VALUE, toldOf(1, 3, Long.MAX_VALUE, 1));
        CHECK.due("a sum of both greatest", -2, toldOf(1, 3, Long.MAX_VALUE, Long.MAX_VALUE));
        CHECK.due("a sum of both least", 0, toldOf(1, 3, Long.MIN_VALUE, Long.MIN_VALUE));
        CHECK.due("a sum round to the least again", -1, toldOf(1, 3, Long.MAX_VALUE, Long.MIN_VALUE));
    }

    private static void checkRounding() {
        CHECK.sentence("2 SINGLES and 3 DOUBLES (IEEE 754, of 32 and 64 bits; what is worked out is rounded to the "
                + "nearest one, a half to the even one).");
        float single = 1 << 24;
        CHECK.due("a half to the even one below", Check.bits(single), toldOf(2, 3, Check.bits(single), Check.bits(1f)));
        CHECK.due("a half to the even one above", Check.bits(single + 4),
                toldOf(2, 3, Check.bits(single + 2), Check.bits(1f)));
        CHECK.due("just below a half", Check.bits(single + 2),
                toldOf(2, 3, Check.bits(single + 2), Check.bits(0.99999994f)));
        CHECK.due("just above a half", Check.bits(single + 2),
                toldOf(2, 3, Check.bits(single), Check.bits(1.0000001f)));
        CHECK.due("a swing's half to the even one", Check.bits(single),
                toldOf(2, 2, Check.bits(1f), Check.bits(-single)));
        CHECK.due("a difference's half to the even one", Check.bits(single - 2),
                toldOf(2, 2, Check.bits(1.5f), Check.bits(single - 1)));
        double two = 1L << 53;
        CHECK.due("a half to the even one below", Check.bits(two), toldOf(3, 3, Check.bits(two), Check.bits(1.0)));
        CHECK.due("a half to the even one above", Check.bits(two + 4),
                toldOf(3, 3, Check.bits(two + 2), Check.bits(1.0)));
        CHECK.due("just below a half", Check.bits(two + 2),
                toldOf(3, 3, Check.bits(two + 2), Check.bits(0.9999999999999999)));
        CHECK.due("just above a half", Check.bits(two + 2),
                toldOf(3, 3, Check.bits(two), Check.bits(1.0000000000000002)));
        CHECK.due("a swing's half to the even one", Check.bits(two), toldOf(3, 2, Check.bits(1.0), Check.bits(-two)));
        CHECK.due("a difference's half to the even one", Check.bits(two - 2),
                toldOf(3, 2, Check.bits(1.5), Check.bits(two - 1)));
    }

    private static void checkTooSmallAndTooLarge() {
        CHECK.sentence("IEEE 754, of 32 and 64 bits; what is worked out is rounded to the nearest one");
        long most32 = Check.bits(Float.MAX_VALUE);
        float halfUnit32 = Math.ulp(Float.MAX_VALUE) / 2;
        CHECK.due("half a unit beyond the greatest single", UP32, toldOf(2, 3, most32, Check.bits(halfUnit32)));
        CHECK.due("less than half a unit beyond", most32, toldOf(2, 3, most32, Check.bits(Math.nextDown(halfUnit32))));
        CHECK.due("the greatest single twice", UP32, toldOf(2, 3, most32, most32));
        CHECK.due("a swing of both greatest singles", UP32, toldOf(2, 2, most32, Check.bits(-Float.MAX_VALUE)));
        CHECK.due("the least singles' sum", 2, toldOf(2, 3, 1, 1));
        CHECK.due("the least singles' swing", 1, toldOf(2, 2, 1, 2));
        CHECK.due("a sum that gets a first bit", 0x0080_0000L, toldOf(2, 3, 0x007f_ffffL, 1));
        CHECK.due("a swing that loses its first bit", 0x007f_ffffL, toldOf(2, 2, 0x0080_0000L, 1));
        long most64 = Check.bits(Double.MAX_VALUE);
        double halfUnit64 = Math.ulp(Double.MAX_VALUE) / 2;
        CHECK.due("half a unit beyond the greatest double", UP64, toldOf(3, 3, most64, Check.bits(halfUnit64)));
        CHECK.due("less than half a unit beyond", most64, toldOf(3, 3, most64, Check.bits(Math.nextDown(halfUnit64))));
        CHECK.due("the greatest double twice", UP64, toldOf(3, 3, most64, most64));
        CHECK.due("a swing of both greatest doubles", UP64, toldOf(3, 2, most64, Check.bits(-Double.MAX_VALUE)));
        CHECK.due("the least doubles' sum", 2, toldOf(3, 3, 1, 1));
        CHECK.due("the least doubles' swing", 1, toldOf(3, 2, 1, 2));
        CHECK.due("a sum that gets a first bit", 1L << 52, toldOf(3, 3, (1L << 52) - 1, 1));
        CHECK.due("a swing that loses its first bit", (1L << 52) - 1, toldOf(3, 2, 1L << 52, 1));
    }

    private static void checkCountBits() {
        CHECK.sentence("They come and go as BITS: a COUNT is the lowest 32 bits that are told,");
        WeatherMast mast = Check.ofEachSort();
        CHECK.due("just beyond 32 bits", 0, mast.read(0, 1L << 32));
        CHECK.due("bit 31 alone", Integer.MIN_VALUE, mast.read(0, 1L << 31));
        CHECK.due("all below bit 31", Integer.MAX_VALUE, mast.read(0, (1L << 31) - 1));
        CHECK.due("all high bits", 5, mast.read(0, -1L << 32 | 5));
        CHECK.due("low by its lowest bits", true, mast.limits(0, 1L << 32, 0));
        CHECK.due("high by its lowest bits", false, mast.limits(0, 1, 1L << 32));
        mast.step(0, 1, 7L << 32 | 0xffff_fffeL);
        CHECK.due("K by its lowest bits", -2, mast.read(0, -9));
    }

    private static void checkTallyBits() {
        CHECK.sentence("a TALLY all 64;");
        WeatherMast mast = Check.ofEachSort();
        for (long told : new long[] {1L << 32, -1L << 32, 1L << 31, Long.MIN_VALUE, Long.MAX_VALUE}) {
            CHECK.due("read", told, mast.read(1, told));
            CHECK.due("kept", told, mast.reading(1, 0));
        }
        CHECK.due("limits", false, mast.limits(1, 1L << 32, 0));
        mast.step(1, 1, 1L << 32);
        CHECK.due("K", 1L << 32, mast.read(1, 9));
    }

    private static void checkSingleBits() {
        CHECK.sentence("of a SINGLE its form's 32 bits are the lowest ones that are told,");
        WeatherMast mast = Check.ofEachSort();
        long noDouble = 0x7ff8_0000L << 32;
        CHECK.due("high bits do not matter", Check.bits(1f), mast.read(2, noDouble | Check.bits(1f)));
        CHECK.due("the sign is bit 31", Check.bits(-1f), mast.read(2, 0xbf80_0000L));
        CHECK.due("bit 63 is no sign", Check.bits(1f), mast.read(2, Long.MIN_VALUE | Check.bits(1f)));
        CHECK.due("a double's high half is left out", 0, mast.read(2, Check.bits(1.0)));
        CHECK.refused("high bits make no number", Check.ARGUMENT, () -> mast.read(2, 0x7fc0_0000L));
        CHECK.due("limits", true, mast.limits(2, noDouble | Check.bits(1f), noDouble | Check.bits(2f)));
        mast.step(2, 1, noDouble | Check.bits(3f));
        CHECK.due("K", Check.bits(3f), mast.read(2, 0));
        CHECK.due("at 3 it is above 2", 1, mast.alarms(2));
    }

    private static void checkDoubleBits() {
        CHECK.sentence("of a DOUBLE its form's 64");
        WeatherMast mast = Check.ofEachSort();
        for (long told : new long[] {Check.bits(-1.0), Check.bits(Math.PI), 0x7f80_0001L, 0xffff_ffffL, Long.MIN_VALUE}) {
            CHECK.due("read", told, mast.read(3, told));
            CHECK.due("kept", told, mast.reading(3, 0));
        }
        mast.step(3, 1, 0xffff_ffffL);
        CHECK.due("K", 0xffff_ffffL, mast.read(3, 0));
    }

    private static void checkAnsweredWithSign() {
        CHECK.sentence("(COUNTS and SINGLES are answered as ints are that are made longer, with their sign).");
        WeatherMast mast = Check.ofEachSort();
        long minusZero = Integer.MIN_VALUE;
        for (int at : new int[] {0, 2}) {
            CHECK.due("read", minusZero, mast.read(at, 0x8000_0000L));
            CHECK.due("reading", minusZero, mast.reading(at, 0));
            CHECK.due("least", minusZero, mast.tell(at, 0));
            CHECK.due("greatest", minusZero, mast.tell(at, 1));
        }
        CHECK.due("a sum of counts", minusZero, mast.tell(0, 3));
        mast.read(0, 0);
        CHECK.due("a swing of counts", minusZero, mast.tell(0, 2));
        CHECK.due("widest of counts", minusZero, mast.widest(0));
        CHECK.due("what is not below 0", Integer.MAX_VALUE, mast.read(0, 0x7fff_ffffL));
        CHECK.due("what is not below 0", UP32, mast.read(2, 0x7f80_0000L));
    }

    private static void checkNoNumbers() {
        CHECK.sentence("Bits of a SINGLE or DOUBLE that are no number are refused wherever they come;");
        for (int sort = 2; sort < 4; sort++) {
            for (long none : sort == 2 ? NO_SINGLES : NO_DOUBLES) {
                WeatherMast mast = Check.ofEachSort();
                int at = sort;
                CHECK.refused("read", Check.ARGUMENT, () -> mast.read(at, none));
                CHECK.refused("K of at least", Check.ARGUMENT, () -> mast.step(at, 1, none));
                CHECK.refused("K of at most", Check.ARGUMENT, () -> mast.step(at, 2, none));
                CHECK.refused("K of like", Check.ARGUMENT, () -> mast.step(at, 7, none));
                CHECK.refused("low", Check.ARGUMENT, () -> mast.limits(at, none, 0) ? 1 : 0);
                CHECK.refused("high", Check.ARGUMENT, () -> mast.limits(at, 0, none) ? 1 : 0);
                CHECK.due("the same bits as a count", (int) none, mast.read(0, none));
                CHECK.due("the same bits as a tally", none, mast.read(1, none));
            }
        }
    }

    private static void checkInfinities() {
        CHECK.sentence("infinities are numbers.");
        for (long infinity : new long[] {UP32, DOWN32, UP64, DOWN64}) {
            int at = infinity == UP32 || infinity == DOWN32 ? 2 : 3;
            WeatherMast mast = Check.ofEachSort();
            CHECK.due("read", infinity, mast.read(at, infinity));
            CHECK.due("kept", infinity, mast.reading(at, 0));
            CHECK.due("limits", true, mast.limits(at, infinity, infinity));
            CHECK.due("K of at least", 1, mast.step(at, 1, infinity));
            CHECK.due("K of at most", 2, mast.step(at, 2, infinity));
            CHECK.due("K of like", 3, mast.step(at, 7, infinity));
            CHECK.due("through the chain", infinity, mast.read(at, 0));
            CHECK.due("at its limits", 0, mast.alarms(at));
        }
    }

    private static void checkZerosOfGreaterAndLesser() {
        CHECK.sentence("-0 is below 0 where the GREATER or LESSER of two is told,");
        for (int sort = 2; sort < 4; sort++) {
            long minusZero = sort == 2 ? Check.bits(-0f) : Check.bits(-0.0);
            CHECK.due("at least 0 of -0", 0, steppedOf(sort, 1, 0, minusZero));
            CHECK.due("at least -0 of 0", 0, steppedOf(sort, 1, minusZero, 0));
            CHECK.due("at least -0 of -0", minusZero, steppedOf(sort, 1, minusZero, minusZero));
            CHECK.due("at most 0 of -0", minusZero, steppedOf(sort, 2, 0, minusZero));
            CHECK.due("at most -0 of 0", minusZero, steppedOf(sort, 2, minusZero, 0));
            CHECK.due("at most 0 of 0", 0, steppedOf(sort, 2, 0, 0));
            CHECK.due("least, 0 first", minusZero, toldOf(sort, 0, 0, minusZero));
            CHECK.due("least, -0 first", minusZero, toldOf(sort, 0, minusZero, 0));
            CHECK.due("greatest, 0 first", 0, toldOf(sort, 1, 0, minusZero));
            CHECK.due("greatest, -0 first", 0, toldOf(sort, 1, minusZero, 0));
            CHECK.due("-0 is above the ones below 0", minusZero, toldOf(sort, 1, minusZero, minusZero + 1));
        }
    }

    private static void checkZerosOfAboveAndBelow() {
        CHECK.sentence("and alike with it where something is ABOVE or BELOW something.");
        for (int sort = 2; sort < 4; sort++) {
            long minusZero = sort == 2 ? Check.bits(-0f) : Check.bits(-0.0);
            WeatherMast mast = Check.ofEachSort();
            CHECK.due("0 is not above -0", true, mast.limits(sort, 0, minusZero));
            mast.read(sort, 0);
            mast.read(sort, minusZero);
            CHECK.due("low 0, high -0", 0, mast.alarms(sort));
            CHECK.due("-0 is not above 0", true, mast.limits(sort, minusZero, 0));
            mast.read(sort, 0);
            mast.read(sort, minusZero);
            CHECK.due("low -0, high 0", 0, mast.alarms(sort));
            mast.limits(sort, 0, 0);
            mast.read(sort, minusZero);
            CHECK.due("-0 is not below 0", 0, mast.alarms(sort));
            mast.limits(sort, minusZero, minusZero);
            mast.read(sort, 0);
            CHECK.due("0 is not above -0", 0, mast.alarms(sort));
            mast.read(sort, 1);
            CHECK.due("the least above 0 is above -0", 1, mast.alarms(sort));
            mast.read(sort, minusZero + 1);
            CHECK.due("the greatest below 0 is below -0", 2, mast.alarms(sort));
        }
    }

    private static long toldOf(int sort, int what, long first, long second) {
        WeatherMast mast = new WeatherMast();
        mast.mount(sort);
        mast.read(0, first);
        mast.read(0, second);
        return mast.tell(0, what);
    }

    private static long steppedOf(int sort, int step, long k, long v) {
        WeatherMast mast = new WeatherMast();
        mast.mount(sort);
        mast.step(0, step, k);
        return mast.read(0, v);
    }
}
