/** The terms' words on instruments: the chain's length, the limits at first, the numbering, and where K comes from. */
public final class InstrumentTermsTest {
    private static final Check CHECK = new Check();
    private static final long[] LEAST = {Integer.MIN_VALUE, Long.MIN_VALUE, Check.bits(Float.NEGATIVE_INFINITY),
        Check.bits(Double.NEGATIVE_INFINITY)};
    private static final long[] GREATEST = {Integer.MAX_VALUE, Long.MAX_VALUE, Check.bits(Float.POSITIVE_INFINITY),
        Check.bits(Double.POSITIVE_INFINITY)};

    public static void main(String[] args) {
        checkChainLength();
        checkMixedChainLength();
        checkFirstLimits();
        checkNumbering();
        checkToldK();
        checkOthersLatest();
        checkNoLatest();
        checkReadingAhead();
        CHECK.end();
    }

    private static void checkChainLength() {
        CHECK.sentence("An INSTRUMENT has a sort, a CHAIN of at most six STEPS,");
        for (int sort = 0; sort < 4; sort++) {
            WeatherMast mast = Check.ofEachSort();
            int at = sort;
            mast.read(at, 0);
            CHECK.due("an empty chain does no steps", 0, mast.count(3));
            for (int n = 1; n <= 6; n++) {
                CHECK.due("step " + n, n, mast.step(at, 0, 0));
            }
            CHECK.refused("a seventh", Check.STATE, () -> mast.step(at, 0, 0));
            CHECK.refused("a seventh that follows", Check.STATE, () -> mast.follow(at, 1, at));
            mast.read(at, 0);
            CHECK.due("six steps are done", 6, mast.count(3));
        }
    }

    private static void checkMixedChainLength() {
        WeatherMast mast = Check.ofEachSort();
        for (int n = 1; n <= 5; n += 2) {
            CHECK.due("a told step " + n, n, mast.step(3, 1, 0));
            CHECK.due("a step that follows " + (n + 1), n + 1, mast.follow(3, 2, 3));
        }
        CHECK.refused("a seventh", Check.STATE, () -> mast.step(3, 3, 0));
        CHECK.refused("a seventh that follows", Check.STATE, () -> mast.follow(3, 7, 3));
        CHECK.due("another instrument's chain is its own", 1, mast.step(2, 3, 0));
    }

    private static void checkFirstLimits() {
        CHECK.sentence("limits LOW and HIGH (the least and the greatest number of its sort at first, infinities too),");
        for (int sort = 0; sort < 4; sort++) {
            WeatherMast mast = Check.ofEachSort();
            mast.read(sort, LEAST[sort]);
            CHECK.due("the least is no alarm", 0, mast.alarms(sort));
            mast.read(sort, GREATEST[sort]);
            CHECK.due("the greatest is no alarm", 0, mast.alarms(sort));
            mast.limits(sort, LEAST[sort] + (sort < 2 ? 1 : -1), GREATEST[sort] - 1);
            mast.read(sort, LEAST[sort]);
            CHECK.due("the least is an alarm below other limits", 1, mast.alarms(sort));
            mast.read(sort, GREATEST[sort]);
            CHECK.due("the greatest is an alarm above other limits", 2, mast.alarms(sort));
        }
    }

    private static void checkNumbering() {
        CHECK.sentence("and what it has read. Instruments are numbered from 0 on as they are mounted.");
        WeatherMast mast = new WeatherMast();
        for (int n = 0; n < 8; n++) {
            int next = n;
            CHECK.refused("not mounted yet", Check.INDEX, () -> mast.alarms(next));
            CHECK.due("the number", n, mast.mount(3 - n % 4));
            mast.read(n, n + 100);
        }
        for (int n = 0; n < 8; n++) {
            CHECK.due("each has its own readings", n + 100, mast.reading(n, 0));
        }
        CHECK.refused("no number behind the eighth", Check.INDEX, () -> mast.alarms(8));
        CHECK.refused("no number ahead of 0", Check.INDEX, () -> mast.alarms(-1));
    }

    private static void checkToldK() {
        CHECK.sentence("STEPS make a number v another one; some take a number K of the same sort, which was told with "
                + "the step,");
        WeatherMast mast = new WeatherMast();
        mast.mount(0);
        mast.mount(0);
        mast.step(0, 1, 5);
        mast.step(1, 1, 6);
        mast.step(0, 2, 9);
        CHECK.due("the K of its own step", 5, mast.read(0, 1));
        CHECK.due("the K of its own step", 9, mast.read(0, 10));
        CHECK.due("the other one's K", 6, mast.read(1, 1));
    }

    private static void checkOthersLatest() {
        CHECK.sentence("or is the latest reading of another instrument");
        WeatherMast mast = new WeatherMast();
        mast.mount(1);
        mast.mount(1);
        mast.step(1, 0, 0);
        mast.follow(0, 2, 1);
        mast.read(1, -40);
        CHECK.due("what came out of the other's chain", 40, mast.read(0, 100));
        for (int n = 1; n <= 20; n++) {
            mast.read(1, n);
            CHECK.due("the latest, not an earlier one", n, mast.read(0, 100));
        }
        CHECK.due("the other one's readings stay", 21, mast.forget(1));
    }

    private static void checkNoLatest() {
        CHECK.sentence("(0 if it has none;");
        for (int sort = 0; sort < 4; sort++) {
            WeatherMast mast = new WeatherMast();
            mast.mount(sort);
            mast.mount(sort);
            mast.follow(0, 1, 1);
            CHECK.due("at least 0", 0, mast.read(0, LEAST[sort]));
            CHECK.due("the other one has still read nothing", 0, mast.forget(1));
            for (int n = 0; n < 20; n++) {
                mast.read(1, GREATEST[sort]);
            }
            CHECK.due("at least the greatest", GREATEST[sort], mast.read(0, LEAST[sort]));
            mast.forget(1);
            CHECK.due("at least 0 when it forgot", 0, mast.read(0, LEAST[sort]));
        }
        for (int sort = 2; sort < 4; sort++) {
            WeatherMast mast = new WeatherMast();
            mast.mount(sort);
            mast.mount(sort);
            mast.follow(0, 1, 1);
            mast.follow(0, 7, 1);
            long minusZero = sort == 2 ? Check.bits(-0f) : Check.bits(-0.0);
            CHECK.due("it is 0, not -0", 0, mast.read(0, minusZero));
        }
    }

    private static void checkReadingAhead() {
        CHECK.sentence("of the same instrument, too: the reading ahead):");
        for (int sort = 0; sort < 4; sort++) {
            WeatherMast mast = Check.ofEachSort();
            mast.step(sort, 0, 0);
            mast.follow(sort, 1, sort);
            mast.step(sort, 2, 50);
            CHECK.due("0 ahead of the first", 7, mast.read(sort, 7));
            CHECK.due("the one ahead, not what is under way", 7, mast.read(sort, 3));
            CHECK.due("cut at the chain's end", 50, mast.read(sort, 90));
            CHECK.due("what came out of the whole chain", 50, mast.read(sort, 60));
            CHECK.due("it was forgotten", 4, mast.forget(sort));
            CHECK.due("0 behind the forgetting", 2, mast.read(sort, 2));
        }
    }
}
