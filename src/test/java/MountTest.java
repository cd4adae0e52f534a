/** Promise 2: mount. */
public final class MountTest {
    private static final Check CHECK = new Check();

    public static void main(String[] args) {
        checkNumbers();
        checkSorts();
        checkNoSuchSort();
        checkEight();
        CHECK.end();
    }

    private static void checkNumbers() {
        CHECK.sentence("A new instrument of a sort: its number.");
        WeatherMast mast = new WeatherMast();
        for (int i = 0; i < 8; i++) {
            CHECK.due("mount " + i, i, mast.mount(i % 4));
            CHECK.due("count", i + 1, mast.count(0));
            int next = i + 1;
            CHECK.refused("alarms of the next", Check.INDEX, () -> mast.alarms(next));
            CHECK.due("alarms of the new one", 0, mast.alarms(i));
            CHECK.due("readings of the new one", 0, mast.forget(i));
            CHECK.due("the new one's first step", 1, mast.step(i, 0, 0));
        }
    }

    /** The sort shows in how the same bits are read. */
    private static void checkSorts() {
        WeatherMast mast = Check.ofEachSort();
        for (int sort = 0; sort < 4; sort++) {
            mast.mount(sort);
        }
        long wide = 0x7ff0_0001_ffff_fff0L;
        for (int i = 0; i < 8; i += 4) {
            CHECK.due("a count", -16, mast.read(i, wide));
            CHECK.due("a tally", wide, mast.read(i + 1, wide));
            int single = i + 2;
            int two = i + 3;
            CHECK.refused("a single", Check.ARGUMENT, () -> mast.read(single, wide));
            CHECK.refused("a double", Check.ARGUMENT, () -> mast.read(two, wide));
            CHECK.due("a single", Check.bits(1f), mast.read(single, wide << 32 | Check.bits(1f)));
            CHECK.due("a double", Check.bits(1.0), mast.read(two, Check.bits(1.0)));
        }
    }

    private static void checkNoSuchSort() {
        CHECK.sentence("IllegalArgumentException when there is no such sort;");
        WeatherMast mast = new WeatherMast();
        for (int sort : new int[] {-1, 4, Integer.MIN_VALUE, Integer.MAX_VALUE}) {
            CHECK.refused("mount(" + sort + ")", Check.ARGUMENT, () -> mast.mount(sort));
        }
        CHECK.due("count behind refusals", 0, mast.count(0));
        CHECK.due("the next one's number behind refusals", 0, mast.mount(0));
    }

    private static void checkEight() {
        CHECK.sentence("UnsupportedOperationException when there are eight.");
        for (int sort = 0; sort < 4; sort++) {
            WeatherMast mast = new WeatherMast();
            int asked = sort;
            for (int i = 0; i < 8; i++) {
                CHECK.due("one of eight", i, mast.mount(sort));
            }
            CHECK.refused("a ninth", Check.UNSUPPORTED, () -> mast.mount(asked));
            CHECK.refused("a ninth, once more", Check.UNSUPPORTED, () -> mast.mount(3 - asked));
            CHECK.due("still eight", 8, mast.count(0));
            CHECK.due("the eighth is there", 0, mast.alarms(7));
            CHECK.refused("the ninth is not there", Check.INDEX, () -> mast.alarms(8));
        }
    }
}
