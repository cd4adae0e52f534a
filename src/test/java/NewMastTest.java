/** Promise 1: a new mast has no instruments, and masts do not share any. */
public final class NewMastTest {
    public static void main(String[] args) {
        Check check = new Check();
        check.sentence("A mast without instruments.");
        WeatherMast mast = new WeatherMast();
        for (int what = 0; what < 4; what++) {
            check.due("count(" + what + ")", 0, mast.count(what));
        }
        for (int number : new int[] {0, 1, 7, 8, -1, Integer.MIN_VALUE, Integer.MAX_VALUE}) {
            check.refused("step", Check.INDEX, () -> mast.step(number, 0, 0));
            check.refused("follow", Check.INDEX, () -> mast.follow(number, 1, number));
            check.refused("read", Check.INDEX, () -> mast.read(number, 0));
            check.refused("reading", Check.INDEX, () -> mast.reading(number, 0));
            check.refused("tell", Check.INDEX, () -> mast.tell(number, 0));
            check.refused("whole", Check.INDEX, () -> mast.whole(number));
            check.refused("limits", Check.INDEX, () -> mast.limits(number, 0, 0) ? 1 : 0);
            check.refused("forget", Check.INDEX, () -> mast.forget(number));
            check.refused("alarms", Check.INDEX, () -> mast.alarms(number));
        }
        for (int sort = 0; sort < 4; sort++) {
            int asked = sort;
            check.refused("widest", Check.NONE_SUCH, () -> mast.widest(asked));
        }
        check.due("the first one's number", 0, mast.mount(0));
        mast.read(0, 5);
        WeatherMast another = new WeatherMast();
        check.due("another mast's instruments", 0, another.count(0));
        check.due("another mast's readings", 0, another.count(1));
        check.due("another mast's first number", 0, another.mount(1));
        check.refused("another mast's reading", Check.NONE_SUCH, () -> another.reading(0, 0));
        check.end();
    }
}
