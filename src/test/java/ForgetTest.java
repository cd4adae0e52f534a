/** Promise 11: forget. */
public final class ForgetTest {
    private static final Check CHECK = new Check();

    public static void main(String[] args) {
        checkNoInstrument();
        for (int sort = 0; sort < 4; sort++) {
            checkGone(sort);
            checkFreshReadings(sort);
            checkStays(sort);
            checkHowMany(sort);
        }
        checkOthersStay();
        CHECK.end();
    }

    private static void checkNoInstrument() {
        CHECK.sentence("IndexOutOfBoundsException when there is no such instrument.");
        WeatherMast mast = Check.ofEachSort();
        for (int at : new int[] {-1, 4, 8, Integer.MIN_VALUE, Integer.MAX_VALUE}) {
            CHECK.refused("forget of instrument " + at, Check.INDEX, () -> mast.forget(at));
        }
    }

    private static void checkGone(int sort) {
        CHECK.sentence("What an instrument has read is gone (readings, LEAST, GREATEST, SWING, SUM;");
        WeatherMast mast = Check.ofEachSort();
        mast.read(sort, 3);
        mast.read(sort, 9);
        mast.forget(sort);
        CHECK.refused("readings", Check.NONE_SUCH, () -> mast.reading(sort, 0));
        for (int what = 0; what < 4; what++) {
            int told = what;
            CHECK.refused("told " + what, Check.NONE_SUCH, () -> mast.tell(sort, told));
        }
        CHECK.refused("whole", Check.NONE_SUCH, () -> mast.whole(sort));
        CHECK.refused("widest", Check.NONE_SUCH, () -> mast.widest(sort));
    }

    private static void checkFreshReadings(int sort) {
        WeatherMast mast = Check.ofEachSort();
        mast.read(sort, 1);
        mast.read(sort, 90);
        mast.forget(sort);
        mast.read(sort, 40);
        CHECK.due("a new least", 40, mast.tell(sort, 0));
        CHECK.due("a new greatest", 40, mast.tell(sort, 1));
        CHECK.due("a new swing", 0, mast.tell(sort, 2));
        CHECK.due("a new sum", 40, mast.tell(sort, 3));
        CHECK.due("the new reading", 40, mast.reading(sort, 0));
        CHECK.refused("one alone is kept", Check.NONE_SUCH, () -> mast.reading(sort, 1));
        CHECK.due("a new widest", 0, mast.widest(sort));
    }

    private static void checkStays(int sort) {
        CHECK.sentence("the chain, limits and alarms stay):");
        WeatherMast mast = Check.ofEachSort();
        mast.step(sort, 2, 50);
        mast.follow(sort, 1, sort);
        mast.limits(sort, 5, 20);
        mast.read(sort, 60);
        mast.read(sort, 1);
        CHECK.due("alarms ahead of it", 2, mast.alarms(sort));
        mast.forget(sort);
        CHECK.due("alarms stay", 2, mast.alarms(sort));
        CHECK.due("alarms ever stay", 2, mast.count(2));
        CHECK.due("readings ever stay", 2, mast.count(1));
        CHECK.due("steps ever stay", 4, mast.count(3));
        CHECK.due("the chain stays, its K is 0", 4, mast.read(sort, 4));
        CHECK.due("the lower limit stays", 3, mast.alarms(sort));
        CHECK.due("the chain stays", 50, mast.read(sort, 60));
        CHECK.due("the upper limit stays", 4, mast.alarms(sort));
        CHECK.due("the chain's length stays", 3, mast.step(sort, 0, 0));
    }

    private static void checkHowMany(int sort) {
        CHECK.sentence("how many readings there were since it was mounted, or forgot last.");
        WeatherMast mast = Check.ofEachSort();
        CHECK.due("nothing was read", 0, mast.forget(sort));
        mast.read(sort, 1);
        CHECK.due("one since a forgetting of none", 1, mast.forget(sort));
        CHECK.due("forgotten at once", 0, mast.forget(sort));
        for (int n : new int[] {15, 16, 17, 33}) {
            for (int i = 0; i < n; i++) {
                mast.read(sort, i);
            }
            CHECK.due("since it forgot last", n, mast.forget(sort));
        }
        CHECK.due("and none since", 0, mast.forget(sort));
    }

    private static void checkOthersStay() {
        WeatherMast mast = Check.ofEachSort();
        for (int at = 0; at < 4; at++) {
            mast.read(at, 7);
        }
        mast.forget(1);
        for (int at : new int[] {0, 2, 3}) {
            CHECK.due("another's reading", 7, mast.reading(at, 0));
            CHECK.due("another's sum", 7, mast.tell(at, 3));
            CHECK.due("another's number of readings", 1, mast.forget(at));
        }
    }
}
