/** Promise 2: mount. */
public final class MountTest {
    public static void main(String[] args) {
        Check check = new Check();
        WeatherMast mast = new WeatherMast();
        for (int sort : new int[] {-1, 4, Integer.MIN_VALUE, Integer.MAX_VALUE}) {
            check.refused("mount(" + sort + ")", Check.ARGUMENT, () -> mast.mount(sort));
        }
        check.due("count after refusals", 0, mast.count(0));
        for (int i = 0; i < 8; i++) {
            check.due("mount " + i, i, mast.mount(i % 4));
            check.due("count", i + 1, mast.count(0));
            int next = i + 1;
            check.refused("alarms of the next", Check.INDEX, () -> mast.alarms(next));
            check.due("alarms of the new one", 0, mast.alarms(i));
        }
        check.refused("a ninth", Check.UNSUPPORTED, () -> mast.mount(0));
        check.refused("a ninth of no sort", Check.ARGUMENT, () -> mast.mount(4));
        check.due("still eight", 8, mast.count(0));
        checkSorts(check, mast);
        check.end();
    }

    /** The sort shows in how the same bits are read. */
    private static void checkSorts(Check check, WeatherMast mast) {
        long wide = 0x7ff0_0001_ffff_fff0L;
        for (int i = 0; i < 8; i += 4) {
            check.due("a count", -16, mast.read(i, wide));
            check.due("a tally", wide, mast.read(i + 1, wide));
            int single = i + 2;
            int two = i + 3;
            check.refused("a single", Check.ARGUMENT, () -> mast.read(single, wide));
            check.refused("a double", Check.ARGUMENT, () -> mast.read(two, wide));
            check.due("a single", Check.bits(1f), mast.read(single, wide << 32 | Check.bits(1f)));
            check.due("a double", Check.bits(1.0), mast.read(two, Check.bits(1.0)));
        }
    }
}
