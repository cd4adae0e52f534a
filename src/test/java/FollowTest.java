/** Promise 4: follow. */
public final class FollowTest {
    private static final Check CHECK = new Check();

    public static void main(String[] args) {
        checkRefusals();
        checkOther();
        checkItself();
        checkEachOther();
        checkSign();
        CHECK.end();
    }

    private static void checkRefusals() {
        WeatherMast mast = Check.ofEachSort();
        for (int at : new int[] {-1, 4, 8, Integer.MIN_VALUE, Integer.MAX_VALUE}) {
            CHECK.sentence("IndexOutOfBoundsException when there is no such instrument,");
            CHECK.refused("instrument " + at, Check.INDEX, () -> mast.follow(at, 1, 0));
            CHECK.sentence("or no such other;");
            CHECK.refused("other " + at, Check.INDEX, () -> mast.follow(0, 1, at));
        }
        for (int sort = 0; sort < 4; sort++) {
            int asked = sort;
            CHECK.sentence("then IllegalArgumentException when there is no such step of its sort,");
            for (int step : new int[] {-1, 8, Integer.MIN_VALUE, Integer.MAX_VALUE}) {
                CHECK.refused("step " + step, Check.ARGUMENT, () -> mast.follow(asked, step, asked));
            }
            CHECK.sentence("it takes no K,");
            for (int step : new int[] {0, 3, 4, 5, 6}) {
                CHECK.refused("step " + step, Check.ARGUMENT, () -> mast.follow(asked, step, asked));
            }
            CHECK.sentence("or the other one is of another sort;");
            for (int other = 0; other < 4; other++) {
                int leader = other;
                if (other != sort) {
                    CHECK.refused("another sort", Check.ARGUMENT, () -> mast.follow(asked, 1, leader));
                }
            }
        }
        CHECK.sentence("when there is no such step of its sort,");
        CHECK.refused("like of counts", Check.ARGUMENT, () -> mast.follow(0, 7, 0));
        CHECK.refused("like of tallies", Check.ARGUMENT, () -> mast.follow(1, 7, 1));
        CHECK.due("like of singles", 1, mast.follow(2, 7, 2));
        CHECK.due("like of doubles", 1, mast.follow(3, 7, 3));
        CHECK.sentence("then IllegalStateException when it has six.");
        CHECK.due("a told step ahead", 1, mast.step(0, 0, 0));
        for (int i = 2; i <= 6; i++) {
            CHECK.due("follow " + i, i, mast.follow(0, 1 + i % 2, 0));
        }
        CHECK.refused("a seventh", Check.STATE, () -> mast.follow(0, 1, 0));
        CHECK.refused("a seventh told", Check.STATE, () -> mast.step(0, 1, 0));
        CHECK.refused("a seventh without K", Check.ARGUMENT, () -> mast.follow(0, 0, 0));
        CHECK.refused("a seventh of another sort", Check.ARGUMENT, () -> mast.follow(0, 1, 1));
        CHECK.refused("a seventh without other", Check.INDEX, () -> mast.follow(0, 1, 9));
    }

    private static void checkOther() {
        WeatherMast mast = new WeatherMast();
        mast.mount(0);
        mast.mount(0);
        CHECK.sentence("One more step whose K is the latest reading of an instrument other: how many steps it has.");
        CHECK.due("follow", 1, mast.follow(0, 1, 1));
        CHECK.due("0 while it has none", 0, mast.read(0, -7));
        CHECK.due("above 0", 7, mast.read(0, 7));
        mast.read(1, 10);
        CHECK.due("the other's latest", 10, mast.read(0, 7));
        mast.read(1, -20);
        CHECK.due("the other's new latest", -15, mast.read(0, -15));
        mast.forget(1);
        CHECK.due("0 when it forgot", 0, mast.read(0, -15));
        CHECK.due("the other has not changed", 0, mast.forget(1));
    }

    private static void checkItself() {
        WeatherMast mast = new WeatherMast();
        mast.mount(1);
        mast.follow(0, 1, 0);
        mast.step(0, 2, 50);
        CHECK.due("0 ahead of the first", 0, mast.read(0, -1));
        CHECK.due("risen", 30, mast.read(0, 30));
        CHECK.due("the reading ahead", 30, mast.read(0, 20));
        CHECK.due("behind the whole chain", 50, mast.read(0, 80));
        CHECK.due("the reading ahead is what came out", 50, mast.read(0, 3));
        mast.forget(0);
        CHECK.due("forgotten", 4, mast.read(0, 4));
    }

    private static void checkEachOther() {
        WeatherMast mast = new WeatherMast();
        mast.mount(3);
        mast.mount(3);
        mast.follow(0, 1, 1);
        mast.follow(1, 2, 0);
        CHECK.due("first", Check.bits(2.0), mast.read(0, Check.bits(2.0)));
        CHECK.due("second", Check.bits(2.0), mast.read(1, Check.bits(5.0)));
        CHECK.due("first again", Check.bits(2.0), mast.read(0, Check.bits(-5.0)));
    }

    private static void checkSign() {
        WeatherMast mast = new WeatherMast();
        mast.mount(2);
        mast.mount(2);
        mast.follow(0, 7, 1);
        CHECK.due("like 0", Check.bits(3f), mast.read(0, Check.bits(-3f)));
        mast.read(1, Check.bits(-0f));
        CHECK.due("like -0", Check.bits(-3f), mast.read(0, Check.bits(3f)));
        mast.read(1, Check.bits(0f));
        CHECK.due("like 0 again", Check.bits(3f), mast.read(0, Check.bits(-3f)));
    }
}
