/** Promise 11: forget. */
public final class ForgetTest {
    private static final Check CHECK = new Check();

    public static void main(String[] args) {
        WeatherMast mast = Check.ofEachSort();
        CHECK.refused("no instrument", Check.INDEX, () -> mast.forget(4));
        CHECK.refused("no instrument", Check.INDEX, () -> mast.forget(-1));
        CHECK.due("nothing was read", 0, mast.forget(0));
        mast.step(0, 1, -10);
        mast.limits(0, 0, 50);
        for (int n = 1; n <= 20; n++) {
            mast.read(0, n * 3);
        }
        mast.read(1, 7);
        CHECK.due("more than are kept", 20, mast.forget(0));
        CHECK.due("forgotten at once", 0, mast.forget(0));
        CHECK.refused("readings are gone", Check.NONE_SUCH, () -> mast.reading(0, 0));
        for (int what = 0; what < 4; what++) {
            int told = what;
            CHECK.refused("told things are gone", Check.NONE_SUCH, () -> mast.tell(0, told));
        }
        CHECK.refused("the latest is gone", Check.NONE_SUCH, () -> mast.whole(0));
        CHECK.refused("the swing is gone", Check.NONE_SUCH, () -> mast.widest(0));
        CHECK.due("alarms stay", 4, mast.alarms(0));
        CHECK.due("readings ever stay", 21, mast.count(1));
        CHECK.due("alarms ever stay", 4, mast.count(2));
        CHECK.due("steps ever stay", 20, mast.count(3));
        CHECK.due("others stay", 7, mast.reading(1, 0));
        CHECK.due("the chain stays", -10, mast.read(0, -11));
        CHECK.due("the limits stay", 5, mast.alarms(0));
        CHECK.due("a new least", -10, mast.tell(0, 0));
        CHECK.due("a new greatest", -10, mast.tell(0, 1));
        CHECK.due("a new swing", 0, mast.tell(0, 2));
        CHECK.due("a new sum", 10, mast.tell(0, 3));
        CHECK.refused("one alone is kept", Check.NONE_SUCH, () -> mast.reading(0, 1));
        CHECK.due("since it forgot last", 1, mast.forget(0));
        CHECK.end();
    }
}
