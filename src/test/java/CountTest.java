/** Promise 13: count. */
public final class CountTest {
    private static final Check CHECK = new Check();

    public static void main(String[] args) {
        WeatherMast mast = new WeatherMast();
        CHECK.sentence("-1 for another what.");
        for (int what : new int[] {-1, 4, Integer.MIN_VALUE, Integer.MAX_VALUE}) {
            CHECK.due("another what", -1, mast.count(what));
        }
        CHECK.sentence("0 how many instruments, 1 readings ever, 2 alarms ever, 3 steps that were done ever;");
        due(mast, 0, 0, 0, 0);
        mast.mount(0);
        mast.mount(3);
        due(mast, 2, 0, 0, 0);
        mast.step(0, 0, 0);
        mast.follow(0, 1, 0);
        due(mast, 2, 0, 0, 0);
        mast.read(0, 5);
        due(mast, 2, 1, 0, 2);
        mast.read(1, 5);
        due(mast, 2, 2, 0, 2);
        mast.step(1, 3, 0);
        mast.read(1, 5);
        due(mast, 2, 3, 0, 3);
        mast.limits(0, 6, 6);
        mast.limits(1, Check.bits(1.0), Check.bits(1.0));
        mast.read(0, 5);
        mast.read(1, 5);
        due(mast, 2, 5, 2, 6);
        mast.forget(0);
        mast.forget(1);
        due(mast, 2, 5, 2, 6);
        mast.read(0, 5);
        due(mast, 2, 6, 3, 8);
        CHECK.refused("no number", Check.ARGUMENT, () -> mast.read(1, -1));
        CHECK.refused("no instrument", Check.INDEX, () -> mast.read(2, 0));
        CHECK.refused("no sort", Check.ARGUMENT, () -> mast.mount(9));
        due(mast, 2, 6, 3, 8);
        CHECK.due("another what", -1, mast.count(4));
        CHECK.end();
    }

    private static void due(WeatherMast mast, int instruments, int readings, int alarms, int steps) {
        CHECK.due("instruments", instruments, mast.count(0));
        CHECK.due("readings", readings, mast.count(1));
        CHECK.due("alarms", alarms, mast.count(2));
        CHECK.due("steps", steps, mast.count(3));
    }
}
